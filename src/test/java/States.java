/** States of an object that several tests start from. */
final class States {
    private States() {
    }

    /** The draft has readings for the places 0 to 5. */
    static final State FULL_DRAFT = State.NEW.thenTimes(6, place -> x -> x.slip(place, place + 1));

    /** The copy 1, untold, with the errors 1 at the place 0 and 9 at the place 23; the draft is empty. */
    static final State TWO_COPIES = State.NEW.then(
            x -> x.slip(0, 1), x -> x.slip(23, 9), x -> x.copy(0, 0, 0, false));

    /** 39 of TWO_COPIES, and a reading in the draft. */
    static final State ALL_COPIES_BUT_ONE = TWO_COPIES.thenTimes(37, number -> x -> x.copy(1, 1, 0, false))
            .then(x -> x.slip(5, 5));

    static final State ALL_COPIES = ALL_COPIES_BUT_ONE.then(x -> x.copy(1, 1, 0, false), x -> x.slip(5, 5));

    /** The copy 1 has the error 1 at the place 0, the copy 2 has 2 there, the copy 3 none. */
    static final State FOUR_COPIES = State.NEW.then(
            x -> x.slip(0, 1), x -> x.copy(0, 0, 0, false),
            x -> x.slip(0, 2), x -> x.copy(0, 0, 0, false), x -> x.copy(0, 0, 0, false));

    /** The copy 3 of FOUR_COPIES was corrected 59 times, by turns from the copies 1 and 2; 1 was the last. */
    static final State ALL_LETTERS_BUT_ONE = FOUR_COPIES.thenTimes(59,
            number -> x -> x.correct(0, 3, number % 2 == 0 ? 1 : 2, 0));

    static final State ALL_LETTERS = ALL_LETTERS_BUT_ONE.then(x -> x.correct(0, 3, 2, 0));

    /** The copy 0 was lent 39 times to the house 1, and given back. */
    static final State ALL_LOANS_BUT_ONE = State.NEW.thenTimes(78,
            number -> x -> number % 2 == 0 ? x.lend(0, 1, 1, 1) : x.giveBack(number / 2));

    static final State ALL_LOANS = ALL_LOANS_BUT_ONE.then(x -> x.lend(0, 1, 1, 1), x -> x.giveBack(39));

    static final State DAY_1800 = State.NEW.thenTimes(9, times -> x -> x.pass(200));

    static final State LAST_DAY = DAY_1800.then(x -> x.pass(200));

    /** The copy 0 of TWO_COPIES is lent to the house 1 for 10 days, against 21 coins. */
    static final State LENT = TWO_COPIES.then(x -> x.lend(0, 1, 10, 21));

    /** LENT, and given back in time. */
    static final State BACK = LENT.then(x -> x.giveBack(0));

    /**
     * Something of all: told and untold copies, two of them lent, one late; letters in two houses; a loan that is
     * back, with half of its pledge lost; a draft.
     */
    static final State RICH = State.NEW.then(
            x -> x.slip(0, 1), x -> x.slip(23, 9), x -> x.copy(0, 0, 0, true),
            x -> x.slip(1, 2), x -> x.copy(1, 5, 0, false),
            x -> x.correct(0, 2, 0, 23),
            x -> x.lend(1, 1, 10, 21), x -> x.lend(0, 2, 5, 40),
            x -> x.pass(12), x -> x.copy(1, 3, 1, false), x -> x.giveBack(1), x -> x.lend(0, 3, 100, 50),
            x -> x.slip(4, 4), x -> x.copy(3, 2, 1, false), x -> x.correct(1, 1, 4, 4), x -> x.lend(4, 4, 1, 0),
            x -> x.slip(7, 7), x -> x.slip(8, 0));
}
