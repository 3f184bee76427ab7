/** Promises 19 to 25: families, guesses, and where errors are and may have been made. */
public final class FamiliesTest {
    private static final Checks checks = new Checks();

    public static void main(String[] args) {
        familiesJoinByErrors();
        familiesJoinByToldModels();
        familiesPartByCorrections();
        familiesPartByLettersWorkedIn();
        familiesJoinByCorrections();
        toldModelsHoldBehindCorrections();
        longChain();
        guesses();
        guessOfTheLowestOfSeveral();
        rightGuessesCountTheMade();
        spreadAndSources();
        unknownNumbers();
        checks.end("FamiliesTest");
    }

    private static void dueFamilies(String state, ModelCopies x, int... families) {
        int count = 0;
        for (int copy = 0; copy < families.length; copy++) {
            checks.due(state + ": family(" + copy + ")", x.family(copy), families[copy]);
            checks.due(state + ": familyByErrors(" + copy + ")", x.familyByErrors(copy), families[copy]);
            count += families[copy] == copy ? 1 : 0;
        }
        checks.due(state + ": families", x.families(), count);
    }

    private static void copyWith(ModelCopies x, int model, boolean isTold, int... placesAndReadings) {
        for (int i = 0; i < placesAndReadings.length; i += 2) {
            x.slip(placesAndReadings[i], placesAndReadings[i + 1]);
        }
        x.copy(model, 0, 0, isTold);
    }

    private static void familiesJoinByErrors() {
        ModelCopies x = new ModelCopies();
        dueFamilies("new", x, 0);
        copyWith(x, 0, false, 0, 1);
        copyWith(x, 0, false, 0, 2);
        dueFamilies("unlike errors at one place", x, 0, 1, 2);
        copyWith(x, 0, false);
        dueFamilies("right copies are not kin", x, 0, 1, 2, 3);
        copyWith(x, 2, false, 3, 3);
        dueFamilies("an error passed on", x, 0, 1, 2, 3, 2);
        copyWith(x, 0, false, 3, 3, 0, 1);
        dueFamilies("one that joins two", x, 0, 1, 1, 3, 1, 1);
    }

    private static void familiesJoinByToldModels() {
        ModelCopies x = new ModelCopies();
        copyWith(x, 0, true);
        copyWith(x, 1, false, 4, 4);
        copyWith(x, 2, true, 4, 0);
        dueFamilies("told at once", x, 0, 0, 2, 2);
        x.tellModel(2);
        dueFamilies("told later", x, 0, 0, 0, 0);
        ModelCopies y = new ModelCopies();
        copyWith(y, 0, false, 0, 1);
        copyWith(y, 0, false, 5, 5);
        copyWith(y, 2, true, 5, 0, 0, 1);
        dueFamilies("the copy 2 is kin to 1 by the copy of which it is the told model", y, 0, 1, 1, 1);
    }

    private static void familiesPartByCorrections() {
        ModelCopies x = new ModelCopies();
        copyWith(x, 0, false, 0, 1);
        copyWith(x, 1, false, 1, 1);
        copyWith(x, 2, false, 0, 0);
        dueFamilies("a bridge", x, 0, 1, 1, 1);
        x.correct(0, 2, 0, 0);
        dueFamilies("the bridge is cut", x, 0, 1, 2, 2);
        x.correct(0, 2, 0, 1);
        dueFamilies("all apart", x, 0, 1, 2, 3);
    }

    private static void familiesPartByLettersWorkedIn() {
        ModelCopies x = new ModelCopies();
        copyWith(x, 0, false, 0, 1);
        copyWith(x, 1, false);
        copyWith(x, 1, false);
        x.correct(0, 3, 0, 0);
        dueFamilies("one corrected", x, 0, 1, 1, 3);
        x.workIn(0, 1);
        dueFamilies("worked in", x, 0, 1, 2, 3);
    }

    private static void familiesJoinByCorrections() {
        ModelCopies x = new ModelCopies();
        copyWith(x, 0, false, 0, 1);
        copyWith(x, 0, false, 1, 2);
        x.correct(0, 0, 1, 0);
        dueFamilies("an error taken over", x, 0, 0, 2);
        x.correct(0, 0, 2, 1);
        dueFamilies("one more", x, 0, 0, 0);
        x.correct(0, 0, 2, 0);
        dueFamilies("and one given up", x, 0, 1, 0);
    }

    private static void toldModelsHoldBehindCorrections() {
        ModelCopies x = new ModelCopies();
        copyWith(x, 0, false, 0, 1);
        copyWith(x, 1, true);
        x.correct(0, 2, 0, 0);
        dueFamilies("told", x, 0, 1, 1);
        x.correct(0, 1, 0, 0);
        dueFamilies("told still", x, 0, 1, 1);
    }

    /** Each copy shares an error with the next one alone, and the last ones are joined last. */
    private static void longChain() {
        ModelCopies x = new ModelCopies();
        for (int copy = 1; copy < 24; copy++) {
            copyWith(x, 0, false, copy - 1, 1, copy, 1);
        }
        checks.due("family(23)", x.family(23), 1);
        checks.due("familyByErrors(23)", x.familyByErrors(23), 1);
        checks.due("familyByErrors(0)", x.familyByErrors(0), 0);
        x.correct(0, 12, 0, 12);
        checks.due("family(23) cut", x.family(23), 13);
        checks.due("familyByErrors(23) cut", x.familyByErrors(23), 13);
        checks.due("family(12)", x.family(12), 1);
        checks.due("families", x.families(), 3);
    }

    private static void guesses() {
        ModelCopies x = new ModelCopies();
        checks.due("guess(0)", x.guess(0), -1);
        copyWith(x, 0, false, 0, 1, 1, 1, 2, 1);
        checks.due("guess(1)", x.guess(1), 0);
        copyWith(x, 1, false);
        checks.due("guess(2): 6 of the copy 1", x.guess(2), 1);
        copyWith(x, 1, false, 0, 0, 1, 0);
        checks.due("guess(3): 2 less 2 of the copy 1 is not more than 0", x.guess(3), 0);
        copyWith(x, 1, false, 0, 0);
        checks.due("guess(4): 4 less 1 of the copy 1", x.guess(4), 1);
        copyWith(x, 0, false, 0, 2);
        checks.due("guess(5): less 3 for 1, as unlike errors count too", x.guess(5), 0);
        copyWith(x, 3, true, 1, 1);
        checks.due("guess(6): told", x.guess(6), 3);
        copyWith(x, 3, false, 1, 1);
        checks.due("guess(7): 4 of the copy 4", x.guess(7), 4);
        x.tellModel(7);
        checks.due("guess(7): told by then", x.guess(7), 3);
    }

    private static void guessOfTheLowestOfSeveral() {
        ModelCopies x = new ModelCopies();
        copyWith(x, 0, false, 0, 1);
        copyWith(x, 1, false);
        copyWith(x, 2, false);
        checks.due("guess(3)", x.guess(3), 1);
        x.correct(0, 1, 0, 0);
        checks.due("guess(3): the copy 1 has it no longer", x.guess(3), 2);
        checks.due("guess(2): never a higher copy", x.guess(2), 0);
        copyWith(x, 0, false, 5, 5);
        x.correct(0, 0, 4, 5);
        checks.due("guess(1): the copy 0 is all there is, though its worth is below 0", x.guess(1), 0);
        checks.due("guess(2): 0 of the copy 1 against less 1", x.guess(2), 1);
    }

    private static void rightGuessesCountTheMade() {
        ModelCopies x = new ModelCopies();
        copyWith(x, 0, false, 0, 1);
        checks.due("one untold", x.rightGuesses(), 1);
        copyWith(x, 1, false, 1, 1);
        copyWith(x, 1, false);
        checks.due("three", x.rightGuesses(), 3);
        copyWith(x, 3, false);
        checks.due("guess(4) is 1, its model is 3", x.rightGuesses(), 3);
        x.tellModel(4);
        checks.due("told", x.rightGuesses(), 4);
    }

    private static void spreadAndSources() {
        ModelCopies x = new ModelCopies();
        checks.due("spread(0, 1)", x.spread(0, 1), 0);
        checks.due("sources(23, 9)", x.sources(23, 9), 0);
        copyWith(x, 0, false, 0, 1);
        copyWith(x, 1, false);
        copyWith(x, 0, true, 0, 1);
        checks.due("spread(0, 1)", x.spread(0, 1), 3);
        checks.due("sources(0, 1): in 1, and in 3 from the told 0", x.sources(0, 1), 2);
        checks.due("spread(0, 2)", x.spread(0, 2), 0);
        checks.due("spread(1, 1)", x.spread(1, 1), 0);
        x.correct(0, 0, 1, 0);
        checks.due("spread(0, 1) with the copy 0", x.spread(0, 1), 4);
        checks.due("sources(0, 1): in the copy 0 alone", x.sources(0, 1), 1);
        copyWith(x, 0, false, 23, 9);
        checks.due("spread(23, 9)", x.spread(23, 9), 1);
        checks.due("sources(23, 9)", x.sources(23, 9), 1);
    }

    private static void unknownNumbers() {
        ModelCopies x = new ModelCopies();
        for (int no : new int[] {Integer.MIN_VALUE, -1, 1, 40, Integer.MAX_VALUE}) {
            checks.noPlaceOrThing("family(no)", () -> x.family(no));
            checks.noPlaceOrThing("familyByErrors(no)", () -> x.familyByErrors(no));
            checks.noPlaceOrThing("guess(no)", () -> x.guess(no));
        }
        for (int no : new int[] {Integer.MIN_VALUE, -1, 24, Integer.MAX_VALUE}) {
            checks.noPlaceOrThing("spread(no, 1)", () -> x.spread(no, 1));
            checks.noPlaceOrThing("sources(no, 1)", () -> x.sources(no, 1));
            checks.noPlaceOrThing("spread(no, 0): the place is named first", () -> x.spread(no, 0));
            checks.noPlaceOrThing("sources(no, 0): the place is named first", () -> x.sources(no, 0));
        }
        for (int no : new int[] {Integer.MIN_VALUE, -1, 0, 10, Integer.MAX_VALUE}) {
            checks.outOfRange("spread(0, no)", () -> x.spread(0, no));
            checks.outOfRange("sources(0, no)", () -> x.sources(0, no));
        }
    }
}
