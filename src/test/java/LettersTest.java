/** Promises 6, 7 and 26 to 28: corrections, letters worked in, and letters as they are. */
public final class LettersTest {
    private static final Checks checks = new Checks();

    public static void main(String[] args) {
        correctWritesALetter();
        correctThrows();
        correctKeepsToSixty();
        workInGoesByRisingNumbers();
        workInThrows();
        lettersTravelWithLoans();
        unknownLetters();
        checks.end("LettersTest");
    }

    /** The copies 1 (errors 0:1, 1:2) and 2 (errors 0:3, 1:2) in the house 0. */
    private static ModelCopies withThreeCopies() {
        ModelCopies x = new ModelCopies();
        x.slip(0, 1);
        x.slip(1, 2);
        x.copy(0, 0, 0, false);
        x.slip(0, 3);
        x.copy(1, 0, 0, false);
        return x;
    }

    private static void correctWritesALetter() {
        ModelCopies x = withThreeCopies();
        checks.due("correct(0, 1, 2, 0)", x.correct(0, 1, 2, 0), 0);
        checks.due("reading(1, 0)", x.reading(1, 0), 3);
        checks.due("reading(2, 0)", x.reading(2, 0), 3);
        checks.due("letter(0)", x.letter(0), 13);
        checks.due("correct(0, 0, 2, 1): an error may be taken over", x.correct(0, 0, 2, 1), 1);
        checks.due("letter(1)", x.letter(1), 102);
        checks.due("errors(0)", x.errors(0), 1);
        checks.due("letters", x.letters(), 2);
        x.slip(23, 9);
        x.copy(0, 0, 0, false);
        checks.due("correct(0, 3, 0, 23)", x.correct(0, 3, 0, 23), 2);
        checks.due("letter(2)", x.letter(2), 2390);
        for (int letter = 0; letter < 3; letter++) {
            checks.due("hasLetter(0, letter)", x.hasLetter(0, letter), true);
            checks.due("hasLetter(1, letter)", x.hasLetter(1, letter), false);
            checks.due("hasLetter(4, letter)", x.hasLetter(4, letter), false);
        }
    }

    private static void correctThrows() {
        ModelCopies x = withThreeCopies();
        for (int no : new int[] {Integer.MIN_VALUE, -1, 24, Integer.MAX_VALUE}) {
            checks.noPlaceOrThing("correct(no, 1, 0, 0)", () -> x.correct(no, 1, 0, 0));
            checks.noPlaceOrThing("correct(0, no, 0, 0)", () -> x.correct(0, no, 0, 0));
            checks.noPlaceOrThing("correct(0, 1, no, 0)", () -> x.correct(0, 1, no, 0));
            checks.noPlaceOrThing("correct(0, 1, 0, no)", () -> x.correct(0, 1, 0, no));
            checks.noPlaceOrThing("correct(1, 1, 0, no): the place is named first", () -> x.correct(1, 1, 0, no));
        }
        checks.noPlaceOrThing("correct(5, 1, 0, 0)", () -> x.correct(5, 1, 0, 0));
        checks.noPlaceOrThing("correct(0, 3, 0, 0)", () -> x.correct(0, 3, 0, 0));
        checks.noPlaceOrThing("correct(0, 0, 3, 0)", () -> x.correct(0, 0, 3, 0));
        checks.notNow("correct(1, 1, 0, 0)", () -> x.correct(1, 1, 0, 0));
        checks.notNow("correct(0, 1, 2, 1): the same error", () -> x.correct(0, 1, 2, 1));
        checks.notNow("correct(0, 1, 1, 0): the same copy", () -> x.correct(0, 1, 1, 0));
        checks.notNow("correct(0, 1, 0, 5): both right", () -> x.correct(0, 1, 0, 5));
        x.lend(1, 1, 1, 0);
        checks.notNow("correct(0, 1, 0, 0) lent", () -> x.correct(0, 1, 0, 0));
        checks.notNow("correct(0, 0, 1, 0) from a lent one", () -> x.correct(0, 0, 1, 0));
        checks.notNow("correct(1, 1, 0, 0), the other one elsewhere", () -> x.correct(1, 1, 0, 0));
        checks.notNow("correct(1, 0, 1, 0), the corrected one elsewhere", () -> x.correct(1, 0, 1, 0));
        checks.due("letters", x.letters(), 0);
        checks.due("reading(1, 0)", x.reading(1, 0), 1);
        checks.due("reading(0, 0)", x.reading(0, 0), 0);
    }

    private static void correctKeepsToSixty() {
        ModelCopies x = withThreeCopies();
        x.copy(2, 0, 0, false);
        for (int letter = 0; letter < 60; letter++) {
            checks.due("correct", x.correct(0, 2, letter % 2 == 0 ? 1 : 3, 0), letter);
        }
        checks.notNow("correct(0, 2, 1, 0)", () -> x.correct(0, 2, 1, 0));
        checks.noPlaceOrThing("correct(0, 2, 1, 24)", () -> x.correct(0, 2, 1, 24));
        checks.due("letters", x.letters(), 60);
        checks.due("letter(59)", x.letter(59), 13);
        checks.due("letter(58)", x.letter(58), 31);
        checks.due("reading(2, 0)", x.reading(2, 0), 3);
        checks.due("workIn(0, 2) goes to and fro", x.workIn(0, 2), 60);
        checks.due("workIn(0, 1)", x.workIn(0, 1), 59);
        checks.due("reading(1, 0)", x.reading(1, 0), 3);
        checks.noPlaceOrThing("letter(60)", () -> x.letter(60));
        checks.noPlaceOrThing("hasLetter(0, 60)", () -> x.hasLetter(0, 60));
    }

    private static void workInGoesByRisingNumbers() {
        ModelCopies x = withThreeCopies();
        x.copy(1, 0, 0, false);
        checks.due("workIn(0, 1) without letters", x.workIn(0, 1), 0);
        x.correct(0, 3, 2, 0);
        x.correct(0, 3, 0, 0);
        x.correct(0, 3, 0, 1);
        checks.due("workIn(0, 1): 1 to 3, 3 to 0, 2 to 0", x.workIn(0, 1), 3);
        checks.due("errors(1)", x.errors(1), 0);
        checks.due("workIn(0, 1) again", x.workIn(0, 1), 0);
        checks.due("workIn(0, 2): 3 to 0, 2 to 0", x.workIn(0, 2), 2);
        checks.due("errors(2)", x.errors(2), 0);
        checks.due("workIn(0, 0)", x.workIn(0, 0), 0);
        checks.due("families by then", x.families(), 4);
        checks.due("letters", x.letters(), 3);
    }

    private static void workInThrows() {
        ModelCopies x = withThreeCopies();
        x.correct(0, 1, 0, 0);
        for (int no : new int[] {Integer.MIN_VALUE, -1, 5, Integer.MAX_VALUE}) {
            checks.noPlaceOrThing("workIn(no, 1)", () -> x.workIn(no, 1));
            checks.noPlaceOrThing("workIn(0, no)", () -> x.workIn(0, no));
            checks.noPlaceOrThing("workIn(1, no)", () -> x.workIn(1, no));
        }
        checks.noPlaceOrThing("workIn(0, 3)", () -> x.workIn(0, 3));
        checks.notNow("workIn(1, 1)", () -> x.workIn(1, 1));
        x.lend(2, 1, 5, 0);
        checks.notNow("workIn(0, 2) lent", () -> x.workIn(0, 2));
        checks.due("reading(2, 0)", x.reading(2, 0), 3);
    }

    private static void lettersTravelWithLoans() {
        ModelCopies x = withThreeCopies();
        x.correct(0, 1, 0, 0);
        checks.due("hasLetter(1, 0)", x.hasLetter(1, 0), false);
        x.lend(0, 1, 5, 0);
        checks.due("hasLetter(1, 0) behind lending", x.hasLetter(1, 0), true);
        x.slip(4, 4);
        x.copy(0, 0, 1, false);
        x.correct(1, 3, 0, 4);
        x.correct(0, 2, 1, 0);
        checks.due("hasLetter(0, 1) before giving back", x.hasLetter(0, 1), false);
        checks.due("hasLetter(1, 2): written behind lending", x.hasLetter(1, 2), false);
        x.giveBack(0);
        checks.due("hasLetter(0, 1) behind giving back", x.hasLetter(0, 1), true);
        checks.due("hasLetter(1, 2): letters go one way", x.hasLetter(1, 2), false);
        checks.due("hasLetter(0, 0) is kept", x.hasLetter(0, 0), true);
        checks.due("hasLetter(2, 0)", x.hasLetter(2, 0), false);
        x.lend(3, 2, 5, 0);
        checks.due("hasLetter(2, 0): passed on", x.hasLetter(2, 0), true);
        checks.due("hasLetter(2, 1): passed on", x.hasLetter(2, 1), true);
        checks.due("hasLetter(2, 2)", x.hasLetter(2, 2), false);
        checks.due("workIn(2, 3)", x.workIn(2, 3), 0);
        checks.due("letters", x.letters(), 3);
    }

    private static void unknownLetters() {
        ModelCopies x = withThreeCopies();
        x.correct(0, 1, 0, 0);
        for (int no : new int[] {Integer.MIN_VALUE, -1, 1, 60, Integer.MAX_VALUE}) {
            checks.noPlaceOrThing("letter(no)", () -> x.letter(no));
            checks.noPlaceOrThing("hasLetter(0, no)", () -> x.hasLetter(0, no));
            if (no != 1) {
                checks.noPlaceOrThing("hasLetter(no, 0)", () -> x.hasLetter(no, 0));
            }
        }
        checks.noPlaceOrThing("hasLetter(5, 0)", () -> x.hasLetter(5, 0));
        checks.due("hasLetter(4, 0)", x.hasLetter(4, 0), false);
    }
}
