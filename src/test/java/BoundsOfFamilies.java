import java.util.List;

/** Promises 19 to 25. */
final class BoundsOfFamilies extends Bounds {
    private static final State NEW = State.NEW;

    @Override
    List<Runnable> tests() {
        return List.of(this::family, this::familyAnswer, this::familyNoCopy, this::familyByErrors,
                this::familyByErrorsAnswer, this::familyByErrorsNoCopy, this::familyNumbers, this::guess,
                this::guessAnswer, this::guessNoCopy, this::rightGuesses, this::spread, this::spreadReading,
                this::spreadAnswer, this::spreadNoPlace, this::spreadOutOfRange, this::sources, this::sourcesReading,
                this::sourcesAnswer, this::sourcesNoPlace, this::sourcesOutOfRange);
    }

    /** The copies 1 and 2 with an error each, and the copy 3 with both. */
    private static final State BRIDGE = NEW.then(
            x -> x.slip(0, 1), x -> x.copy(0, 0, 0, false), x -> x.slip(23, 9), x -> x.copy(0, 0, 0, false),
            x -> x.slip(0, 1), x -> x.copy(2, 0, 0, false));

    private void family() {
        promise(19, "Returns the family of a copy, as it is kept");
        in(NEW, 0, x -> x.family(0));
        inEach(BRIDGE, 1, copy -> x -> x.family(copy), 1, 2, 3);
        in(BRIDGE, 0, x -> x.family(0));
        State parted = BRIDGE.then(x -> x.correct(0, 3, 0, 0));
        in(parted, 1, x -> x.family(1));
        inEach(parted, 2, copy -> x -> x.family(copy), 2, 3);
        State workedIn = parted.then(x -> x.workIn(0, 1), x -> x.correct(0, 1, 2, 23));
        inEach(workedIn, 1, copy -> x -> x.family(copy), 1, 2, 3);
        inEach(workedIn.then(x -> x.tellModel(3), x -> x.tellModel(2)), 0, copy -> x -> x.family(copy), 0, 1, 2, 3);
    }

    private void familyAnswer() {
        promise(19, "Returns the number of the family");
        State alone = NEW.thenTimes(39, model -> x -> x.copy(model, 0, 0, false));
        for (int copy = 0; copy < 40; copy++) {
            int c = copy;
            in(alone, c, x -> x.family(c));
        }
        inEach(alone.then(x -> x.tellModel(39)), 38, copy -> x -> x.family(copy), 38, 39);
        inEach(States.ALL_COPIES, 1, copy -> x -> x.family(copy), 1, 39);
    }

    private void familyNoCopy() {
        promise(19, "Throws IndexOutOfBoundsException if there is no such copy");
        in(States.TWO_COPIES, 1, x -> x.family(1));
        noSuchEach(States.TWO_COPIES, copy -> x -> x.family(copy), -1, 2);
        in(States.ALL_COPIES, 1, x -> x.family(39));
        noSuchEach(States.ALL_COPIES, copy -> x -> x.family(copy), -1, 40);
    }

    private void familyByErrors() {
        promise(20, "Returns the same, from all errors at once");
        in(NEW, 0, x -> x.familyByErrors(0));
        inEach(BRIDGE, 1, copy -> x -> x.familyByErrors(copy), 1, 2, 3);
        State parted = BRIDGE.then(x -> x.correct(0, 3, 0, 0));
        in(parted, 1, x -> x.familyByErrors(1));
        inEach(parted, 2, copy -> x -> x.familyByErrors(copy), 2, 3);
        inEach(parted.then(x -> x.tellModel(2)), 0, copy -> x -> x.familyByErrors(copy), 0, 2, 3);
        families(States.RICH, 0, 0, 0, 0, 0);
        families(States.RICH.then(x -> x.giveBack(2), x -> x.giveBack(0), x -> x.correct(0, 2, 0, 0)), 0, 0, 2, 0, 0);
    }

    private void familyByErrorsAnswer() {
        promise(20, "Returns the number of the family");
        State alone = NEW.thenTimes(39, model -> x -> x.copy(model, 0, 0, false));
        for (int copy = 0; copy < 40; copy++) {
            int c = copy;
            in(alone, c, x -> x.familyByErrors(c));
        }
        inEach(alone.then(x -> x.tellModel(39)), 38, copy -> x -> x.familyByErrors(copy), 38, 39);
        State toldRow = NEW.thenTimes(39, model -> x -> x.copy(model, 0, 0, true));
        inEach(toldRow, 0, copy -> x -> x.familyByErrors(copy), 0, 20, 39);
    }

    private void familyByErrorsNoCopy() {
        promise(20, "Throws IndexOutOfBoundsException if there is no such copy");
        in(States.TWO_COPIES, 1, x -> x.familyByErrors(1));
        noSuchEach(States.TWO_COPIES, copy -> x -> x.familyByErrors(copy), -1, 2);
        in(States.ALL_COPIES, 1, x -> x.familyByErrors(39));
        noSuchEach(States.ALL_COPIES, copy -> x -> x.familyByErrors(copy), -1, 40);
    }

    private void familyNumbers() {
        promise(21, "Returns how many families there are");
        in(NEW, 1, x -> x.families());
        in(BRIDGE, 2, x -> x.families());
        in(BRIDGE.then(x -> x.correct(0, 3, 0, 0)), 3, x -> x.families());
        in(BRIDGE.then(x -> x.correct(0, 3, 0, 0), x -> x.correct(0, 3, 0, 23)), 4, x -> x.families());
        in(NEW.thenTimes(39, model -> x -> x.copy(model, 0, 0, false)), 40, x -> x.families());
        in(NEW.thenTimes(39, model -> x -> x.copy(model, 0, 0, true)), 1, x -> x.families());
    }

    private void guess() {
        promise(22, "Returns the guess of a copy");
        State two = States.TWO_COPIES;
        in(two, 0, x -> x.guess(1));
        in(two.then(x -> x.copy(0, 0, 0, false)), 0, x -> x.guess(2));
        in(two.then(x -> x.slip(0, 0), x -> x.copy(1, 0, 0, false)), 1, x -> x.guess(2));
        in(two.then(x -> x.copy(0, 0, 0, false), x -> x.copy(1, 0, 0, false)), 1, x -> x.guess(3));
        in(BRIDGE, 1, x -> x.guess(3));
        in(BRIDGE.then(x -> x.tellModel(3)), 2, x -> x.guess(3));
        in(BRIDGE.then(x -> x.slip(0, 2), x -> x.copy(2, 0, 0, false)), 2, x -> x.guess(4));
    }

    private void guessAnswer() {
        promise(22, "Returns the copy that is guessed; -1 for the copy 0");
        in(NEW, -1, x -> x.guess(0));
        in(NEW.then(x -> x.copy(0, 0, 0, true)), -1, x -> x.guess(0));
        in(NEW.then(x -> x.copy(0, 0, 0, true)), 0, x -> x.guess(1));
        in(NEW.then(x -> x.copy(0, 0, 0, false)), 0, x -> x.guess(1));
        in(States.TWO_COPIES.then(x -> x.correct(0, 0, 1, 0)), -1, x -> x.guess(0));
        State row = NEW.thenTimes(39, model -> x -> x.copy(model, 0, 0, true));
        in(row, 38, x -> x.guess(39));
    }

    private void guessNoCopy() {
        promise(22, "Throws IndexOutOfBoundsException if there is no such copy");
        in(States.TWO_COPIES, 0, x -> x.guess(1));
        noSuchEach(States.TWO_COPIES, copy -> x -> x.guess(copy), -1, 2);
        in(States.ALL_COPIES, 1, x -> x.guess(39));
        noSuchEach(States.ALL_COPIES, copy -> x -> x.guess(copy), -1, 40);
    }

    private void rightGuesses() {
        promise(23, "Returns of how many copies the guess is the model from which they were made, told or not");
        in(NEW, 0, x -> x.rightGuesses());
        in(NEW.then(x -> x.copy(0, 0, 0, false)), 1, x -> x.rightGuesses());
        in(NEW.then(x -> x.copy(0, 0, 0, true)), 1, x -> x.rightGuesses());
        in(States.TWO_COPIES.then(x -> x.correct(0, 0, 1, 0)), 1, x -> x.rightGuesses());
        State row = NEW.thenTimes(39, model -> x -> x.copy(model, 0, 0, false));
        in(row, 1, x -> x.rightGuesses());
        in(row.then(x -> x.tellModel(39)), 2, x -> x.rightGuesses());
        in(row.then(x -> x.tellModel(1)), 1, x -> x.rightGuesses());
        in(NEW.thenTimes(39, model -> x -> x.copy(model, 0, 0, true)), 39, x -> x.rightGuesses());
        in(BRIDGE, 2, x -> x.rightGuesses());
        in(BRIDGE.then(x -> x.tellModel(3)), 3, x -> x.rightGuesses());
        in(States.ALL_COPIES, 39, x -> x.rightGuesses());
    }

    private void spread() {
        promise(24, "Returns in how many copies an error is");
        in(NEW, 0, x -> x.spread(0, 1));
        in(BRIDGE, 2, x -> x.spread(0, 1));
        in(BRIDGE, 2, x -> x.spread(23, 9));
        in(BRIDGE, 0, x -> x.spread(0, 9));
        in(BRIDGE, 0, x -> x.spread(23, 1));
        in(BRIDGE.then(x -> x.correct(0, 0, 1, 0)), 3, x -> x.spread(0, 1));
        in(BRIDGE.then(x -> x.correct(0, 1, 0, 0)), 1, x -> x.spread(0, 1));
    }

    private void spreadReading() {
        promise(24, "reading: 1 to 9");
        for (int reading = 1; reading <= 9; reading++) {
            int r = reading;
            State made = NEW.then(x -> x.slip(3, r), x -> x.copy(0, 0, 0, false));
            for (int asked = 1; asked <= 9; asked++) {
                int a = asked;
                in(made, a == r ? 1 : 0, x -> x.spread(3, a));
            }
        }
        outOfRangeEach(BRIDGE, reading -> x -> x.spread(3, reading), 0, 10, -1);
    }

    private void spreadAnswer() {
        promise(24, "Returns how many");
        for (int copy = 1; copy < 40; copy++) {
            int copies = copy;
            in(States.TWO_COPIES.thenTimes(copies - 1, number -> x -> x.copy(1, 0, 0, false)), copies,
                    x -> x.spread(23, 9));
        }
        in(States.ALL_COPIES.then(x -> x.correct(0, 0, 1, 23)), 40, x -> x.spread(23, 9));
    }

    private void spreadNoPlace() {
        promise(24, "Throws IndexOutOfBoundsException if there is no such place");
        in(BRIDGE, 2, x -> x.spread(0, 1));
        in(BRIDGE, 2, x -> x.spread(23, 9));
        noSuchEach(BRIDGE, place -> x -> x.spread(place, 1), -1, 24);
        noSuchEach(BRIDGE, place -> x -> x.spread(place, 9), -1, 24);
    }

    private void spreadOutOfRange() {
        promise(24, "Throws IllegalArgumentException if reading is out of range");
        inEach(NEW, 0, reading -> x -> x.spread(0, reading), 1, 9);
        outOfRangeEach(NEW, reading -> x -> x.spread(0, reading), 0, 10, -1);
        outOfRangeEach(States.RICH, reading -> x -> x.spread(23, reading), 0, 10, -1);
    }

    private void sources() {
        promise(25, "Returns in how many copies an error may have been made by itself");
        in(NEW, 0, x -> x.sources(0, 1));
        in(BRIDGE, 1, x -> x.sources(0, 1));
        in(BRIDGE, 2, x -> x.sources(23, 9));
        in(BRIDGE, 0, x -> x.sources(23, 1));
        in(BRIDGE.then(x -> x.tellModel(3)), 2, x -> x.sources(0, 1));
        in(BRIDGE.then(x -> x.tellModel(3)), 1, x -> x.sources(23, 9));
        in(BRIDGE.then(x -> x.correct(0, 0, 3, 23)), 1, x -> x.sources(23, 9));
    }

    private void sourcesReading() {
        promise(25, "reading: 1 to 9");
        for (int reading = 1; reading <= 9; reading++) {
            int r = reading;
            State made = NEW.then(x -> x.slip(3, r), x -> x.copy(0, 0, 0, false));
            for (int asked = 1; asked <= 9; asked++) {
                int a = asked;
                in(made, a == r ? 1 : 0, x -> x.sources(3, a));
            }
        }
        outOfRangeEach(BRIDGE, reading -> x -> x.sources(3, reading), 0, 10, -1);
    }

    private void sourcesAnswer() {
        promise(25, "Returns how many");
        State each = NEW;
        for (int copy = 1; copy < 40; copy++) {
            each = each.then(x -> x.slip(23, 9), x -> x.copy(0, 0, 0, true));
            in(each, copy, x -> x.sources(23, 9));
        }
        in(each.then(x -> x.correct(0, 0, 39, 23)), 1, x -> x.sources(23, 9));
        in(States.ALL_COPIES, 1, x -> x.sources(23, 9));
    }

    private void sourcesNoPlace() {
        promise(25, "Throws IndexOutOfBoundsException if there is no such place");
        in(BRIDGE, 1, x -> x.sources(0, 1));
        in(BRIDGE, 2, x -> x.sources(23, 9));
        noSuchEach(BRIDGE, place -> x -> x.sources(place, 1), -1, 24);
        noSuchEach(BRIDGE, place -> x -> x.sources(place, 9), -1, 24);
    }

    private void sourcesOutOfRange() {
        promise(25, "Throws IllegalArgumentException if reading is out of range");
        inEach(NEW, 0, reading -> x -> x.sources(0, reading), 1, 9);
        outOfRangeEach(NEW, reading -> x -> x.sources(0, reading), 0, 10, -1);
        outOfRangeEach(States.RICH, reading -> x -> x.sources(23, reading), 0, 10, -1);
    }
}
