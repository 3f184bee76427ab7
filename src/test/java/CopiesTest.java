/** Promises 1 to 5 and 10 to 18: the draft, copies, told models, days, and copies as they are. */
public final class CopiesTest {
    private static final Checks checks = new Checks();
    private static final int[] FAR = {Integer.MIN_VALUE, -1, Integer.MAX_VALUE};

    public static void main(String[] args) {
        newObject();
        slipCountsAndBounds();
        slipKeepsToSixPlaces();
        copyTakesTheModelAndTheDraft();
        copyThrows();
        copyKeepsToForty();
        slipsAreCountedForGood();
        tellModelOnce();
        passUpToTheLastDay();
        readingsAndErrors();
        sharedErrors();
        housesAndOwners();
        unknownNumbersInQueries();
        checks.end("CopiesTest");
    }

    private static void newObject() {
        ModelCopies x = new ModelCopies();
        checks.due("copies", x.copies(), 1);
        checks.due("day", x.day(), 0);
        checks.due("errors(0)", x.errors(0), 0);
        for (int place = 0; place < 24; place++) {
            checks.due("reading(0, place)", x.reading(0, place), 0);
        }
        checks.due("houseOf(0)", x.houseOf(0), 0);
        checks.due("ownerOf(0)", x.ownerOf(0), 0);
        checks.due("toldModel(0)", x.toldModel(0), -1);
        for (int scribe = 0; scribe < 6; scribe++) {
            checks.due("slips(scribe)", x.slips(scribe), 0);
        }
        checks.due("letters", x.letters(), 0);
        checks.due("loans", x.loans(), 0);
        for (int house = 0; house < 5; house++) {
            checks.due("coins(house)", x.coins(house), 100);
            checks.due("laidDown(house)", x.laidDown(house), 0);
        }
        checks.due("families", x.families(), 1);
        checks.due("rightGuesses", x.rightGuesses(), 0);
        checks.due("the draft is empty", x.slip(23, 9), 1);
    }

    private static void slipCountsAndBounds() {
        ModelCopies x = new ModelCopies();
        checks.due("slip(0, 0) counts, though right", x.slip(0, 0), 1);
        checks.due("slip(23, 9)", x.slip(23, 9), 2);
        checks.due("slip(23, 8) again there", x.slip(23, 8), 2);
        checks.due("slip(5, -1) where none is", x.slip(5, -1), 2);
        checks.due("slip(0, -1)", x.slip(0, -1), 1);
        checks.noPlaceOrThing("slip(-1, 0)", () -> x.slip(-1, 0));
        checks.noPlaceOrThing("slip(24, 0)", () -> x.slip(24, 0));
        checks.noPlaceOrThing("slip(24, 10): the place is named first", () -> x.slip(24, 10));
        checks.outOfRange("slip(0, 10)", () -> x.slip(0, 10));
        checks.outOfRange("slip(0, -2)", () -> x.slip(0, -2));
        for (int far : FAR) {
            checks.noPlaceOrThing("slip(far, 1)", () -> x.slip(far, 1));
            if (far != -1) {
                checks.outOfRange("slip(1, far)", () -> x.slip(1, far));
            }
        }
        checks.due("the thrown slips set nothing", x.slip(23, 8), 1);
    }

    private static void slipKeepsToSixPlaces() {
        ModelCopies x = new ModelCopies();
        for (int place = 0; place < 6; place++) {
            checks.due("slip(place, 1)", x.slip(place, 1), place + 1);
        }
        checks.notNow("slip(6, 1)", () -> x.slip(6, 1));
        checks.notNow("slip(6, 0)", () -> x.slip(6, 0));
        checks.noPlaceOrThing("slip(24, 1) on a full draft", () -> x.slip(24, 1));
        checks.outOfRange("slip(6, 10) on a full draft", () -> x.slip(6, 10));
        checks.due("slip(6, -1)", x.slip(6, -1), 6);
        checks.due("slip(5, 2)", x.slip(5, 2), 6);
        checks.due("slip(5, -1)", x.slip(5, -1), 5);
        checks.due("slip(6, 3)", x.slip(6, 3), 6);
        x.copy(0, 0, 0, false);
        checks.due("reading(1, 5)", x.reading(1, 5), 0);
        checks.due("reading(1, 6)", x.reading(1, 6), 3);
        checks.due("reading(1, 4)", x.reading(1, 4), 1);
    }

    private static void copyTakesTheModelAndTheDraft() {
        ModelCopies x = new ModelCopies();
        x.slip(0, 1);
        x.slip(1, 2);
        checks.due("copy(0, 3, 0, true)", x.copy(0, 3, 0, true), 1);
        checks.due("copies", x.copies(), 2);
        checks.due("the draft is empty then", x.slip(1, 0), 1);
        x.slip(2, 3);
        x.slip(0, 1);
        checks.due("copy(1, 4, 0, false)", x.copy(1, 4, 0, false), 2);
        checks.due("reading(2, 0) of the model and the draft", x.reading(2, 0), 1);
        checks.due("reading(2, 1) made right", x.reading(2, 1), 0);
        checks.due("reading(2, 2) of the draft", x.reading(2, 2), 3);
        checks.due("slips(3)", x.slips(3), 2);
        checks.due("slips(4): two places became unlike", x.slips(4), 2);
        checks.due("reading(1, 1) of the model stays", x.reading(1, 1), 2);
        checks.due("toldModel(1)", x.toldModel(1), 0);
        checks.due("toldModel(2)", x.toldModel(2), -1);
        x.correct(0, 1, 0, 0);
        checks.due("copy(1, 0, 0, false)", x.copy(1, 0, 0, false), 3);
        checks.due("reading(3, 0): the model as it is by then", x.reading(3, 0), 0);
        checks.due("reading(2, 0) stays", x.reading(2, 0), 1);
    }

    private static void copyThrows() {
        ModelCopies x = new ModelCopies();
        x.slip(3, 3);
        for (int far : FAR) {
            checks.noPlaceOrThing("copy(far, 0, 0)", () -> x.copy(far, 0, 0, true));
            checks.noPlaceOrThing("copy(0, far, 0)", () -> x.copy(0, far, 0, true));
            checks.noPlaceOrThing("copy(0, 0, far)", () -> x.copy(0, 0, far, true));
        }
        checks.noPlaceOrThing("copy(1, 0, 0)", () -> x.copy(1, 0, 0, true));
        checks.noPlaceOrThing("copy(0, 6, 0)", () -> x.copy(0, 6, 0, true));
        checks.noPlaceOrThing("copy(0, 0, 5)", () -> x.copy(0, 0, 5, true));
        checks.noPlaceOrThing("copy(0, 6, 1): the scribe is named first", () -> x.copy(0, 6, 1, true));
        checks.notNow("copy(0, 0, 1)", () -> x.copy(0, 0, 1, true));
        checks.due("copies", x.copies(), 1);
        checks.due("slips(0)", x.slips(0), 0);
        checks.due("the draft is kept", x.slip(3, 3), 1);
        x.lend(0, 1, 1, 0);
        checks.notNow("copy(0, 0, 0) when lent", () -> x.copy(0, 0, 0, true));
        checks.due("copy(0, 5, 1, true)", x.copy(0, 5, 1, true), 1);
        checks.due("ownerOf(1)", x.ownerOf(1), 1);
        checks.due("houseOf(1)", x.houseOf(1), 1);
        x.lend(1, 4, 1, 0);
        checks.due("copy(1, 0, 4, true)", x.copy(1, 0, 4, true), 2);
        checks.due("ownerOf(2)", x.ownerOf(2), 4);
    }

    private static void copyKeepsToForty() {
        ModelCopies x = new ModelCopies();
        for (int number = 1; number < 40; number++) {
            checks.due("copy", x.copy(number - 1, 0, 0, false), number);
        }
        x.slip(0, 1);
        checks.notNow("copy(0, 0, 0)", () -> x.copy(0, 0, 0, false));
        checks.noPlaceOrThing("copy(40, 0, 0)", () -> x.copy(40, 0, 0, false));
        checks.due("copies", x.copies(), 40);
        checks.due("the draft is kept", x.slip(0, 1), 1);
        checks.due("slips(0)", x.slips(0), 0);
        checks.due("errors(39)", x.errors(39), 0);
        checks.due("families", x.families(), 40);
    }

    private static void slipsAreCountedForGood() {
        ModelCopies x = new ModelCopies();
        x.slip(0, 1);
        x.copy(0, 2, 0, false);
        x.correct(0, 1, 0, 0);
        checks.due("slips(2) behind a correction", x.slips(2), 1);
        x.slip(0, 0);
        x.copy(0, 2, 0, false);
        checks.due("slips(2): 0 is not unlike to 0", x.slips(2), 1);
        x.slip(0, 5);
        x.slip(9, 5);
        x.copy(0, 2, 0, false);
        checks.due("slips(2)", x.slips(2), 3);
        checks.due("slips(1)", x.slips(1), 0);
        checks.noPlaceOrThing("slips(6)", () -> x.slips(6));
        for (int far : FAR) {
            checks.noPlaceOrThing("slips(far)", () -> x.slips(far));
        }
    }

    private static void tellModelOnce() {
        ModelCopies x = new ModelCopies();
        x.copy(0, 0, 0, false);
        x.copy(1, 0, 0, false);
        x.copy(2, 0, 0, true);
        checks.due("families", x.families(), 3);
        checks.due("tellModel(2)", x.tellModel(2), 1);
        checks.due("family(3)", x.family(3), 1);
        checks.due("toldModel(2)", x.toldModel(2), 1);
        checks.notNow("tellModel(2) again", () -> x.tellModel(2));
        checks.notNow("tellModel(3), told at once", () -> x.tellModel(3));
        checks.notNow("tellModel(0)", () -> x.tellModel(0));
        checks.noPlaceOrThing("tellModel(4)", () -> x.tellModel(4));
        for (int far : FAR) {
            checks.noPlaceOrThing("tellModel(far)", () -> x.tellModel(far));
        }
        checks.due("toldModel(0)", x.toldModel(0), -1);
        checks.due("toldModel(1)", x.toldModel(1), -1);
        checks.due("tellModel(1)", x.tellModel(1), 0);
        checks.due("families", x.families(), 1);
        checks.due("family(3)", x.family(3), 0);
    }

    private static void passUpToTheLastDay() {
        ModelCopies x = new ModelCopies();
        checks.outOfRange("pass(0)", () -> x.pass(0));
        checks.outOfRange("pass(201)", () -> x.pass(201));
        for (int far : FAR) {
            checks.outOfRange("pass(far)", () -> x.pass(far));
        }
        checks.due("pass(1)", x.pass(1), 1);
        checks.due("day", x.day(), 1);
        for (int times = 1; times <= 9; times++) {
            checks.due("pass(200)", x.pass(200), 200 * times + 1);
        }
        checks.notNow("pass(200)", () -> x.pass(200));
        checks.outOfRange("pass(201) near the end", () -> x.pass(201));
        checks.due("day", x.day(), 1801);
        checks.due("pass(199)", x.pass(199), 2000);
        checks.notNow("pass(1)", () -> x.pass(1));
        checks.due("day", x.day(), 2000);
    }

    private static void readingsAndErrors() {
        ModelCopies x = new ModelCopies();
        x.slip(0, 9);
        x.slip(23, 1);
        x.slip(7, 0);
        x.copy(0, 0, 0, false);
        checks.due("reading(1, 0)", x.reading(1, 0), 9);
        checks.due("reading(1, 23)", x.reading(1, 23), 1);
        checks.due("reading(1, 7)", x.reading(1, 7), 0);
        checks.due("errors(1)", x.errors(1), 2);
        checks.due("errors(0)", x.errors(0), 0);
    }

    private static void sharedErrors() {
        ModelCopies x = new ModelCopies();
        x.slip(0, 9);
        x.slip(1, 1);
        x.slip(2, 2);
        x.copy(0, 0, 0, false);
        x.slip(0, 8);
        x.slip(3, 1);
        x.copy(1, 0, 0, false);
        checks.due("shared(1, 2): unlike errors are not shared", x.shared(1, 2), 2);
        checks.due("shared(2, 1)", x.shared(2, 1), 2);
        checks.due("shared(2, 2)", x.shared(2, 2), 4);
        checks.due("shared(0, 2): right readings are not shared", x.shared(0, 2), 0);
        checks.due("shared(0, 0)", x.shared(0, 0), 0);
    }

    private static void housesAndOwners() {
        ModelCopies x = new ModelCopies();
        x.lend(0, 4, 1, 0);
        checks.due("houseOf(0) lent", x.houseOf(0), 4);
        checks.due("ownerOf(0) lent", x.ownerOf(0), 0);
        x.copy(0, 0, 4, false);
        x.giveBack(0);
        checks.due("houseOf(0) back", x.houseOf(0), 0);
        checks.due("houseOf(1)", x.houseOf(1), 4);
        checks.due("ownerOf(1)", x.ownerOf(1), 4);
    }

    private static void unknownNumbersInQueries() {
        ModelCopies x = new ModelCopies();
        x.copy(0, 0, 0, true);
        for (int no : new int[] {Integer.MIN_VALUE, -1, 2, 40, Integer.MAX_VALUE}) {
            checks.noPlaceOrThing("reading(no, 0)", () -> x.reading(no, 0));
            checks.noPlaceOrThing("errors(no)", () -> x.errors(no));
            checks.noPlaceOrThing("shared(no, 0)", () -> x.shared(no, 0));
            checks.noPlaceOrThing("shared(0, no)", () -> x.shared(0, no));
            checks.noPlaceOrThing("houseOf(no)", () -> x.houseOf(no));
            checks.noPlaceOrThing("ownerOf(no)", () -> x.ownerOf(no));
            checks.noPlaceOrThing("toldModel(no)", () -> x.toldModel(no));
        }
        for (int no : new int[] {Integer.MIN_VALUE, -1, 24, Integer.MAX_VALUE}) {
            checks.noPlaceOrThing("reading(0, no)", () -> x.reading(0, no));
        }
    }
}
