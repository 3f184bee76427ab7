import java.util.List;

/** Promises 6, 7 and 26 to 28. */
final class BoundsOfLetters extends Bounds {
    private static final State NEW = State.NEW;
    private static final State FOUR = States.FOUR_COPIES;

    @Override
    List<Runnable> tests() {
        return List.of(this::correctCorrects, this::correctAnswer, this::correctNoSuch, this::correctNotNow,
                this::workInWorks, this::workInAnswer, this::workInNoSuch, this::workInNotNow, this::letters,
                this::hasLetter, this::hasLetterNoSuch, this::letter, this::letterAnswer, this::letterNoLetter);
    }

    private void correctCorrects() {
        promise(6, "Corrects a copy from another one");
        State corrected = States.TWO_COPIES.then(x -> x.correct(0, 1, 0, 0));
        readings(corrected, 1, 23, 9);
        readings(corrected, 0);
        State takenOver = States.TWO_COPIES.then(x -> x.correct(0, 0, 1, 23));
        readings(takenOver, 1, 0, 1, 23, 9);
        readings(takenOver, 0, 23, 9);
        readings(FOUR.then(x -> x.correct(0, 1, 2, 0)), 1, 0, 2);
        in(corrected, 1, x -> x.letters());
    }

    private void correctAnswer() {
        promise(6, "Returns the letter");
        in(FOUR, 0, x -> x.correct(0, 3, 1, 0));
        in(FOUR.then(x -> x.correct(0, 3, 1, 0)), 1, x -> x.correct(0, 3, 2, 0));
        in(States.RICH, 2, x -> x.correct(1, 3, 1, 4));
        for (int letter = 0; letter < 60; letter++) {
            int l = letter;
            State before = FOUR.thenTimes(l, number -> x -> x.correct(0, 3, number % 2 == 0 ? 1 : 2, 0));
            in(before, l, x -> x.correct(0, 3, l % 2 == 0 ? 1 : 2, 0));
        }
    }

    private void correctNoSuch() {
        promise(6, "Throws IndexOutOfBoundsException if there is no such house, copy or place");
        State lent = States.LENT.then(x -> x.lend(1, 4, 1, 0), x -> x.slip(0, 2), x -> x.copy(1, 0, 4, false));
        in(lent, 0, x -> x.correct(4, 2, 1, 0));
        noSuchEach(lent, house -> x -> x.correct(house, 2, 1, 0), -1, 5);
        in(FOUR, 0, x -> x.correct(0, 0, 1, 0));
        in(FOUR, 0, x -> x.correct(0, 3, 1, 0));
        noSuchEach(FOUR, copy -> x -> x.correct(0, copy, 1, 0), -1, 4, 40);
        in(FOUR, 0, x -> x.correct(0, 1, 0, 0));
        in(FOUR, 0, x -> x.correct(0, 1, 3, 0));
        noSuchEach(FOUR, other -> x -> x.correct(0, 1, other, 0), -1, 4, 40);
        inEach(States.TWO_COPIES, 0, place -> x -> x.correct(0, 1, 0, place), 0, 23);
        noSuchEach(States.TWO_COPIES, place -> x -> x.correct(0, 1, 0, place), -1, 24);
        noSuchEach(NEW, copy -> x -> x.correct(0, copy, copy, 0), -1, 1);
    }

    private void correctNotNow() {
        promise(6, "Throws IllegalStateException if either is not in the house, both have the same reading there, or"
                + " 60 letters were written");
        State two = States.TWO_COPIES;
        in(two, 0, x -> x.correct(0, 1, 0, 0));
        notNowEach(two, house -> x -> x.correct(house, 1, 0, 0), 1, 2, 3, 4);
        State oneLent = two.then(x -> x.lend(1, 2, 1, 0));
        notNowEach(oneLent, house -> x -> x.correct(house, 1, 0, 0), 0, 1, 2);
        notNowEach(oneLent, house -> x -> x.correct(house, 0, 1, 0), 0, 1, 2);
        State bothLent = oneLent.then(x -> x.lend(0, 2, 1, 0));
        in(bothLent, 0, x -> x.correct(2, 0, 1, 0));
        notNowEach(bothLent, house -> x -> x.correct(house, 0, 1, 0), 0, 1, 3);
        notNowEach(two, place -> x -> x.correct(0, 1, 0, place), 1, 22);
        notNowEach(two.then(x -> x.copy(1, 0, 0, false)), place -> x -> x.correct(0, 1, 2, place), 0, 1, 23);
        notNow(two, x -> x.correct(0, 1, 1, 0));
        in(States.ALL_LETTERS_BUT_ONE, 59, x -> x.correct(0, 0, 1, 0));
        notNow(States.ALL_LETTERS, x -> x.correct(0, 0, 1, 0));
        notNow(States.ALL_LETTERS, x -> x.correct(0, 3, 1, 0));
    }

    private void workInWorks() {
        promise(7, "Works the letters of a house into a copy");
        State written = States.TWO_COPIES.then(x -> x.copy(1, 0, 0, false), x -> x.correct(0, 1, 0, 0),
                x -> x.correct(0, 1, 0, 23));
        State workedIn = written.then(x -> x.workIn(0, 2));
        readings(workedIn, 2);
        readings(workedIn, 1);
        readings(workedIn, 0);
        families(workedIn, 0, 1, 2);
        in(workedIn, 2, x -> x.letters());
        readings(written, 2, 0, 1, 23, 9);
        families(written.then(x -> x.correct(0, 0, 2, 0)).then(x -> x.workIn(0, 1)), 0, 0, 0);
    }

    private void workInAnswer() {
        promise(7, "Returns how many times a reading is changed");
        in(FOUR, 0, x -> x.workIn(0, 1));
        State one = FOUR.then(x -> x.correct(0, 3, 1, 0));
        in(one, 1, x -> x.workIn(0, 0));
        inEach(one, 0, copy -> x -> x.workIn(0, copy), 1, 2, 3);
        in(one.then(x -> x.workIn(0, 0)), 0, x -> x.workIn(0, 0));
        State toAndFro = one.then(x -> x.correct(0, 3, 0, 0));
        in(toAndFro, 2, x -> x.workIn(0, 0));
        in(toAndFro.then(x -> x.workIn(0, 0)), 2, x -> x.workIn(0, 0));
        in(toAndFro, 1, x -> x.workIn(0, 1));
        in(States.ALL_LETTERS, 60, x -> x.workIn(0, 0));
    }

    private void workInNoSuch() {
        promise(7, "Throws IndexOutOfBoundsException if there is no such house or copy");
        State written = FOUR.then(x -> x.correct(0, 3, 1, 0), x -> x.lend(0, 4, 1, 0));
        in(written, 1, x -> x.workIn(4, 0));
        noSuchEach(written, house -> x -> x.workIn(house, 0), -1, 5);
        in(written, 0, x -> x.workIn(0, 3));
        noSuchEach(written, copy -> x -> x.workIn(0, copy), -1, 4);
        noSuchEach(written, copy -> x -> x.workIn(4, copy), -1, 4, 40);
    }

    private void workInNotNow() {
        promise(7, "Throws IllegalStateException if the copy is not in the house");
        State written = FOUR.then(x -> x.correct(0, 3, 1, 0));
        in(written, 1, x -> x.workIn(0, 0));
        notNowEach(written, house -> x -> x.workIn(house, 0), 1, 2, 3, 4);
        State lent = written.then(x -> x.lend(0, 4, 1, 0));
        in(lent, 1, x -> x.workIn(4, 0));
        notNowEach(lent, house -> x -> x.workIn(house, 0), 0, 1, 2, 3);
        State back = lent.then(x -> x.giveBack(0));
        in(back, 1, x -> x.workIn(0, 0));
        notNow(back, x -> x.workIn(4, 0));
        notNow(NEW, x -> x.workIn(1, 0));
        in(NEW, 0, x -> x.workIn(0, 0));
    }

    private void letters() {
        promise(26, "Returns how many letters were written");
        in(NEW, 0, x -> x.letters());
        in(FOUR, 0, x -> x.letters());
        in(FOUR.then(x -> x.correct(0, 3, 1, 0)), 1, x -> x.letters());
        in(FOUR.then(x -> x.correct(0, 3, 1, 0), x -> x.workIn(0, 0)), 1, x -> x.letters());
        in(FOUR.then(x -> x.correct(0, 3, 1, 0), x -> x.lend(0, 1, 1, 0)), 1, x -> x.letters());
        in(States.ALL_LETTERS_BUT_ONE, 59, x -> x.letters());
        in(States.ALL_LETTERS, 60, x -> x.letters());
    }

    private void hasLetter() {
        promise(27, "Tells whether a house has a letter");
        in(States.RICH, true, x -> x.hasLetter(0, 0));
        in(States.RICH, false, x -> x.hasLetter(0, 1));
        inEach(States.RICH, true, house -> x -> x.hasLetter(house, 0), 0, 1, 2, 3, 4);
        inEach(States.RICH, true, house -> x -> x.hasLetter(house, 1), 1, 4);
        inEach(States.RICH, false, house -> x -> x.hasLetter(house, 1), 2, 3);
        inEach(States.ALL_LETTERS, true, letter -> x -> x.hasLetter(0, letter), 0, 59);
        inEach(States.ALL_LETTERS, false, letter -> x -> x.hasLetter(4, letter), 0, 59);
    }

    private void hasLetterNoSuch() {
        promise(27, "Throws IndexOutOfBoundsException if there is no such house or letter");
        State all = States.ALL_LETTERS.then(x -> x.lend(0, 4, 1, 0));
        inEach(all, true, house -> x -> x.hasLetter(house, 59), 0, 4);
        noSuchEach(all, house -> x -> x.hasLetter(house, 59), -1, 5);
        inEach(all, true, letter -> x -> x.hasLetter(4, letter), 0, 59);
        noSuchEach(all, letter -> x -> x.hasLetter(4, letter), -1, 60);
        noSuchEach(NEW, letter -> x -> x.hasLetter(0, letter), -1, 0, 59);
        noSuchEach(States.RICH, letter -> x -> x.hasLetter(0, letter), -1, 2);
        noSuchEach(States.RICH, house -> x -> x.hasLetter(house, 0), -1, 5);
    }

    private void letter() {
        promise(28, "Returns what a letter says");
        in(States.RICH, 2390, x -> x.letter(0));
        in(States.RICH, 404, x -> x.letter(1));
        in(States.ALL_LETTERS, 21, x -> x.letter(58));
        State more = States.RICH.then(x -> x.giveBack(2), x -> x.correct(0, 2, 0, 1), x -> x.workIn(0, 2));
        in(more, 2390, x -> x.letter(0));
        in(more, 120, x -> x.letter(2));
    }

    private void letterAnswer() {
        promise(28, "Returns 100 times its place, 10 times the reading that was there, and the one that is there then,"
                + " together");
        for (int place = 0; place < 24; place++) {
            for (int reading = 0; reading <= 9; reading++) {
                int p = place;
                int r = reading;
                int other = (r + 1 + p % 9) % 10;
                State written = NEW.then(x -> x.slip(p, r), x -> x.copy(0, 0, 0, false),
                        x -> x.slip(p, other), x -> x.copy(0, 0, 0, false), x -> x.correct(0, 1, 2, p));
                in(written, 100 * p + 10 * r + other, x -> x.letter(0));
            }
        }
    }

    private void letterNoLetter() {
        promise(28, "Throws IndexOutOfBoundsException if there is no such letter");
        noSuchEach(NEW, letter -> x -> x.letter(letter), -1, 0, 59, 60);
        in(States.RICH, 404, x -> x.letter(1));
        noSuchEach(States.RICH, letter -> x -> x.letter(letter), -1, 2);
        in(States.ALL_LETTERS, 12, x -> x.letter(59));
        noSuchEach(States.ALL_LETTERS, letter -> x -> x.letter(letter), -1, 60);
    }
}
