import java.util.List;

/** The sentences of "Terms", and how many calls an object answers. */
final class BoundsOfTerms extends Bounds {
    private static final State NEW = State.NEW;

    @Override
    List<Runnable> tests() {
        return List.of(this::callsOfAnObject, this::familiesKept, this::places, this::readingsOfAPlace,
                this::housesAndScribes, this::daysOfNow, this::coinsAtFirst, this::numbersOfCopies, this::copyZero,
                this::otherCopies, this::draft, this::toldOrNot, this::errorsOfACopy, this::sharedErrors,
                this::slipsOfAScribe, this::kin, this::familyOfACopy, this::guessOfAToldModel, this::guessByWorth,
                this::madeByItself, this::corrections, this::numbersOfLetters, this::houseHasTheLetter,
                this::lettersWorkedIn, this::lettersTravel, this::numbersOfLoans, this::lending, this::lateness,
                this::pledges, this::throwingChangesNothing, this::firstNamedIsThrown, this::noSuchNumbers,
                this::askingChangesNothing);
    }

    private void callsOfAnObject() {
        opening("An object is used for at most 512 calls after it has been made; what later calls answer is free");
        in(NEW.thenTimes(511, number -> x -> x.pass(1)), 512, x -> x.pass(1));
        in(NEW.thenTimes(511, number -> x -> x.slip(number % 6, number % 10)), 5, x -> x.slip(0, -1));
        State used = States.ALL_COPIES.thenTimes(468, number -> x -> x.guess(39));
        due(used.callsLeft(), 1);
        in(used, 0, x -> x.tellModel(1));
        in(used, 0, x -> x.lend(39, 4, 100, 50));
        in(used, 0, x -> x.correct(0, 39, 0, 23));
    }

    private void familiesKept() {
        terms("Families are kept as copies are made and corrected, and found once more from all errors at once");
        State made = States.TWO_COPIES.then(x -> x.copy(1, 0, 0, false), x -> x.copy(0, 0, 0, false));
        families(made, 0, 1, 1, 3);
        State corrected = made.then(x -> x.correct(0, 1, 0, 0));
        families(corrected, 0, 1, 1, 3);
        State more = corrected.then(x -> x.correct(0, 1, 0, 23));
        families(more, 0, 1, 2, 3);
        State takenOver = more.then(x -> x.correct(0, 0, 2, 23));
        families(takenOver, 0, 1, 0, 3);
        State workedIn = takenOver.then(x -> x.workIn(0, 2));
        families(workedIn, 0, 1, 0, 3);
        families(workedIn.then(x -> x.tellModel(2)), 0, 0, 0, 3);
        families(workedIn.then(x -> x.tellModel(3)), 0, 1, 0, 0);
    }

    private void places() {
        terms("The work has the places 0 to 23");
        State two = States.TWO_COPIES;
        inEach(two, 1, place -> x -> x.slip(place, 1), 0, 23);
        noSuchEach(two, place -> x -> x.slip(place, 1), -1, 24);
        inEach(two, 0, place -> x -> x.correct(0, 1, 0, place), 0, 23);
        noSuchEach(two, place -> x -> x.correct(0, 1, 0, place), -1, 24);
        in(two, 1, x -> x.reading(1, 0));
        in(two, 9, x -> x.reading(1, 23));
        noSuchEach(two, place -> x -> x.reading(1, place), -1, 24);
        in(two, 1, x -> x.spread(0, 1));
        in(two, 1, x -> x.spread(23, 9));
        noSuchEach(two, place -> x -> x.spread(place, 1), -1, 24);
        in(two, 1, x -> x.sources(0, 1));
        in(two, 1, x -> x.sources(23, 9));
        noSuchEach(two, place -> x -> x.sources(place, 1), -1, 24);
    }

    private void readingsOfAPlace() {
        terms("At a place a copy has a reading, 0 to 9; 0 is right, others are errors");
        for (int reading = 0; reading <= 9; reading++) {
            int r = reading;
            State made = NEW.then(x -> x.slip(11, r), x -> x.copy(0, 0, 0, false));
            in(made, r, x -> x.reading(1, 11));
            in(made, r == 0 ? 0 : 1, x -> x.errors(1));
            in(made, r == 0 ? 0 : 1, x -> x.shared(1, 1));
        }
        outOfRangeEach(NEW, reading -> x -> x.slip(11, reading), -2, 10);
        inEach(States.TWO_COPIES, 0, reading -> x -> x.spread(11, reading), 1, 9);
        outOfRangeEach(States.TWO_COPIES, reading -> x -> x.spread(11, reading), 0, 10);
    }

    private void housesAndScribes() {
        terms("Houses are 0 to 4, scribes 0 to 5");
        inEach(NEW, 100, house -> x -> x.coins(house), 0, 1, 2, 3, 4);
        noSuchEach(NEW, house -> x -> x.coins(house), -1, 5);
        inEach(NEW, 0, house -> x -> x.lend(0, house, 1, 0), 1, 4);
        noSuchEach(NEW, house -> x -> x.lend(0, house, 1, 0), -1, 5);
        inEach(NEW, 1, scribe -> x -> x.copy(0, scribe, 0, false), 0, 5);
        noSuchEach(NEW, scribe -> x -> x.copy(0, scribe, 0, false), -1, 6);
        inEach(NEW, 0, scribe -> x -> x.slips(scribe), 0, 1, 2, 3, 4, 5);
        noSuchEach(NEW, scribe -> x -> x.slips(scribe), -1, 6);
    }

    private void daysOfNow() {
        terms("The day of now is 0 at first; it can become 2000");
        in(NEW, 0, x -> x.day());
        in(States.LAST_DAY, 2000, x -> x.day());
        notNow(States.LAST_DAY, x -> x.pass(1));
        State dayBefore = States.DAY_1800.then(x -> x.pass(199));
        in(dayBefore, 1999, x -> x.day());
        in(dayBefore, 2000, x -> x.pass(1));
        notNow(dayBefore, x -> x.pass(2));
    }

    private void coinsAtFirst() {
        terms("Each house has coins, 100 at first");
        inEach(NEW, 100, house -> x -> x.coins(house), 0, 1, 2, 3, 4);
        inEach(NEW, 0, house -> x -> x.laidDown(house), 0, 1, 2, 3, 4);
        for (int house = 1; house <= 4; house++) {
            int h = house;
            State halfLaidDown = States.FOUR_COPIES.then(x -> x.lend(1, h, 9, 50));
            in(halfLaidDown, 1, x -> x.lend(2, h, 9, 50));
            State allLaidDown = halfLaidDown.then(x -> x.lend(2, h, 9, 50));
            in(allLaidDown, 2, x -> x.lend(3, h, 9, 0));
            notNow(allLaidDown, x -> x.lend(3, h, 9, 1));
        }
    }

    private void numbersOfCopies() {
        terms("Copies are numbered from 0 on; at most 40 are there");
        in(NEW, 0, x -> x.errors(0));
        noSuchEach(NEW, copy -> x -> x.errors(copy), -1, 1);
        in(NEW, 1, x -> x.copy(0, 0, 0, false));
        in(States.ALL_COPIES_BUT_ONE, 39, x -> x.copies());
        in(States.ALL_COPIES_BUT_ONE, 39, x -> x.copy(38, 0, 0, false));
        in(States.ALL_COPIES, 40, x -> x.copies());
        in(States.ALL_COPIES, 3, x -> x.errors(39));
        noSuchEach(States.ALL_COPIES, copy -> x -> x.errors(copy), -1, 40);
        notNow(States.ALL_COPIES, x -> x.copy(38, 0, 0, false));
    }

    private void copyZero() {
        terms("The copy 0 is there at first: it belongs to the house 0, and has no errors");
        in(NEW, 1, x -> x.copies());
        in(NEW, 0, x -> x.ownerOf(0));
        in(NEW, 0, x -> x.houseOf(0));
        readings(NEW, 0);
        notNow(NEW, x -> x.lend(0, 0, 1, 0));
        notNowEach(NEW, house -> x -> x.copy(0, 0, house, false), 1, 4);
    }

    private void otherCopies() {
        terms("Each other one was made by a scribe, in a house, to which it belongs, from a model, a copy that is in"
                + " that house then; it has the readings of its model as they are by then, but at the places of the"
                + " draft the readings of the draft");
        State drafted = States.LENT.then(x -> x.lend(1, 4, 9, 0), x -> x.slip(0, 8), x -> x.slip(5, 5));
        notNowEach(drafted, house -> x -> x.copy(1, 0, house, false), 0, 1, 2, 3);
        State made = drafted.then(x -> x.copy(1, 0, 4, false));
        in(made, 4, x -> x.ownerOf(2));
        in(made, 4, x -> x.houseOf(2));
        readings(made, 1, 0, 1, 23, 9);
        readings(made, 2, 0, 8, 5, 5, 23, 9);
        State corrected = made.then(x -> x.correct(4, 1, 2, 5), x -> x.copy(1, 0, 4, false),
                x -> x.correct(4, 1, 2, 0), x -> x.giveBack(1));
        readings(corrected, 3, 0, 1, 5, 5, 23, 9);
        in(corrected, 0, x -> x.houseOf(1));
        in(corrected, 4, x -> x.houseOf(3));
        notNow(corrected, x -> x.copy(1, 0, 4, false));
        in(corrected, 4, x -> x.copy(1, 0, 0, false));
    }

    private void draft() {
        terms("The draft has a reading for some places, at most 6, for none at first; it is empty behind a copy");
        for (int place = 0; place < 24; place++) {
            int p = place;
            in(NEW, 0, x -> x.slip(p, -1));
            in(States.FULL_DRAFT, p < 6 ? 5 : 6, x -> x.slip(p, -1));
            in(States.FULL_DRAFT.then(x -> x.copy(0, 0, 0, false)), 0, x -> x.slip(p, -1));
        }
        in(States.FULL_DRAFT.then(x -> x.slip(5, -1)), 6, x -> x.slip(23, 1));
        notNowEach(States.FULL_DRAFT, place -> x -> x.slip(place, 1), 6, 23);
        State again = States.FULL_DRAFT.then(x -> x.copy(0, 0, 0, false), x -> x.copy(0, 1, 0, false));
        readings(again, 1, 0, 1, 1, 2, 2, 3, 3, 4, 4, 5, 5, 6);
        readings(again, 2);
        in(again, 0, x -> x.slips(1));
        readings(NEW.then(x -> x.copy(0, 0, 0, false)), 1);
    }

    private void toldOrNot() {
        terms("The model is told, or not");
        State told = NEW.then(x -> x.copy(0, 0, 0, true));
        in(told, 0, x -> x.toldModel(1));
        notNow(told, x -> x.tellModel(1));
        State untold = NEW.then(x -> x.copy(0, 0, 0, false));
        in(untold, -1, x -> x.toldModel(1));
        in(untold, 0, x -> x.tellModel(1));
    }

    /** Copies 1 to 4, each with six errors more than the one before it. */
    private static State upToAllErrors() {
        return NEW.thenTimes(28, number -> x -> number % 7 == 6
                ? x.copy(number / 7, 0, 0, false) : x.slip(number / 7 * 6 + number % 7, 1));
    }

    private void errorsOfACopy() {
        terms("An error of a copy is a place with a reading that is not 0");
        in(NEW, 0, x -> x.errors(0));
        State three = NEW.then(x -> x.slip(0, 1), x -> x.slip(1, 9), x -> x.slip(2, 0), x -> x.copy(0, 0, 0, false));
        in(three, 2, x -> x.errors(1));
        for (int copy = 1; copy <= 4; copy++) {
            int c = copy;
            in(upToAllErrors(), 6 * c, x -> x.errors(c));
        }
        in(upToAllErrors().then(x -> x.correct(0, 4, 0, 23)), 23, x -> x.errors(4));
    }

    private void sharedErrors() {
        terms("Two copies share an error if they have the same error at the same place");
        State unlike = NEW.then(x -> x.slip(0, 1), x -> x.slip(1, 2), x -> x.copy(0, 0, 0, false),
                x -> x.slip(0, 2), x -> x.slip(1, 1), x -> x.slip(2, 2), x -> x.copy(0, 0, 0, false));
        in(unlike, 0, x -> x.shared(1, 2));
        in(unlike, 0, x -> x.shared(0, 0));
        in(unlike, 0, x -> x.shared(0, 2));
        in(unlike.then(x -> x.correct(0, 1, 2, 1)), 1, x -> x.shared(1, 2));
        in(upToAllErrors(), 24, x -> x.shared(4, 4));
        in(upToAllErrors(), 18, x -> x.shared(4, 3));
        in(upToAllErrors(), 6, x -> x.shared(1, 4));
    }

    private void slipsOfAScribe() {
        terms("Of a copy made by a scribe, what its draft made unlike to the model are the slips of the scribe; a"
                + " scribe's slips are counted for good");
        State made = States.FULL_DRAFT.then(x -> x.copy(0, 5, 0, false));
        in(made, 6, x -> x.slips(5));
        inEach(made, 0, scribe -> x -> x.slips(scribe), 0, 1, 2, 3, 4);
        State likeTheModel = made.then(x -> x.slip(0, 1), x -> x.slip(9, 0), x -> x.copy(1, 4, 0, false));
        in(likeTheModel, 0, x -> x.slips(4));
        State madeRight = made.then(x -> x.slip(0, 0), x -> x.slip(1, 9), x -> x.copy(1, 5, 0, false));
        in(madeRight, 8, x -> x.slips(5));
        State corrected = madeRight.then(x -> x.correct(0, 1, 0, 0), x -> x.correct(0, 2, 0, 1));
        in(corrected, 8, x -> x.slips(5));
    }

    private void kin() {
        terms("Two copies are kin if they share an error, or one of them is the told model of the other one");
        families(NEW.then(x -> x.copy(0, 0, 0, false)), 0, 1);
        families(NEW.then(x -> x.copy(0, 0, 0, true)), 0, 0);
        families(NEW.then(x -> x.copy(0, 0, 0, false), x -> x.tellModel(1)), 0, 0);
        families(States.FOUR_COPIES, 0, 1, 2, 3);
        families(States.FOUR_COPIES.then(x -> x.copy(2, 0, 0, false)), 0, 1, 2, 3, 2);
        families(States.FOUR_COPIES.then(x -> x.slip(0, 0), x -> x.copy(2, 0, 0, false)), 0, 1, 2, 3, 4);
        families(States.FOUR_COPIES.then(x -> x.slip(0, 0), x -> x.copy(2, 0, 0, true)), 0, 1, 2, 3, 2);
        families(States.FOUR_COPIES.then(x -> x.slip(0, 1), x -> x.copy(2, 0, 0, true)), 0, 1, 1, 3, 1);
    }

    /** Copies 1 to 23, of which each shares an error with the one before it alone. */
    private static State chain() {
        State chain = NEW;
        for (int copy = 1; copy <= 23; copy++) {
            int c = copy;
            chain = chain.then(x -> x.slip(c - 1, 1), x -> x.slip(c, 1), x -> x.copy(0, 0, 0, false));
        }
        return chain;
    }

    private void familyOfACopy() {
        terms("The family of a copy are all copies to which one comes from it by going from kin to kin, itself"
                + " included; its number is that of its lowest copy");
        families(NEW, 0);
        families(States.FOUR_COPIES, 0, 1, 2, 3);
        families(chain(), 0, 1, 1, 1, 1, 1, 1, 1, 1, 1, 1, 1, 1, 1, 1, 1, 1, 1, 1, 1, 1, 1, 1, 1);
        families(chain().then(x -> x.correct(0, 22, 0, 22)),
                0, 1, 1, 1, 1, 1, 1, 1, 1, 1, 1, 1, 1, 1, 1, 1, 1, 1, 1, 1, 1, 1, 1, 23);
        families(chain().then(x -> x.correct(0, 1, 0, 1)),
                0, 1, 2, 2, 2, 2, 2, 2, 2, 2, 2, 2, 2, 2, 2, 2, 2, 2, 2, 2, 2, 2, 2, 2);
        families(chain().then(x -> x.tellModel(23)),
                0, 0, 0, 0, 0, 0, 0, 0, 0, 0, 0, 0, 0, 0, 0, 0, 0, 0, 0, 0, 0, 0, 0, 0);
        State allToldInARow = NEW.thenTimes(39, model -> x -> x.copy(model, 0, 0, true));
        families(allToldInARow, new int[40]);
    }

    private void guessOfAToldModel() {
        terms("The guess of a copy other than 0 is its model, if that is told");
        in(NEW, -1, x -> x.guess(0));
        State like = States.TWO_COPIES.then(x -> x.copy(1, 0, 0, false), x -> x.copy(2, 0, 0, false));
        in(like, 1, x -> x.guess(3));
        in(like.then(x -> x.tellModel(3)), 2, x -> x.guess(3));
        in(States.TWO_COPIES.then(x -> x.slip(0, 0), x -> x.slip(23, 0), x -> x.copy(1, 0, 0, true)), 1,
                x -> x.guess(2));
        in(States.TWO_COPIES.then(x -> x.slip(0, 0), x -> x.slip(23, 0), x -> x.copy(1, 0, 0, false)), 0,
                x -> x.guess(2));
    }

    /** The copy 1 with errors 1 at the first places, and the copy 2 with some of them and an error 2 elsewhere. */
    private static State twoWith(int errors, int sharedErrors) {
        return NEW.thenTimes(errors, place -> x -> x.slip(place, 1)).then(x -> x.copy(0, 0, 0, false))
                .thenTimes(sharedErrors, place -> x -> x.slip(place, 1))
                .then(x -> x.slip(20, 2), x -> x.slip(21, 2), x -> x.copy(0, 0, 0, false));
    }

    private void guessByWorth() {
        terms("Otherwise it is, of all copies with a lower number, the one with the greatest worth, of several the"
                + " lowest one: the worth is 2 for each error that both share, less 1 for each error of the other one"
                + " that the copy does not have");
        in(twoWith(3, 1), 0, x -> x.guess(2));
        in(twoWith(2, 1), 1, x -> x.guess(2));
        in(twoWith(6, 2), 0, x -> x.guess(2));
        in(twoWith(5, 2), 1, x -> x.guess(2));
        in(twoWith(6, 3), 1, x -> x.guess(2));
        in(twoWith(1, 0), 0, x -> x.guess(2));
        State unlikeAtAPlace = NEW.then(x -> x.slip(0, 1), x -> x.slip(1, 1), x -> x.slip(2, 1),
                x -> x.copy(0, 0, 0, false), x -> x.slip(1, 2), x -> x.slip(2, 2));
        in(unlikeAtAPlace.then(x -> x.copy(1, 0, 0, false)), 0, x -> x.guess(2));
        in(unlikeAtAPlace.then(x -> x.slip(2, -1), x -> x.copy(1, 0, 0, false)), 1, x -> x.guess(2));
        State several = States.TWO_COPIES.then(x -> x.copy(1, 0, 0, false), x -> x.copy(1, 0, 0, false),
                x -> x.copy(1, 0, 0, false));
        in(several, 1, x -> x.guess(4));
        in(several.then(x -> x.correct(0, 1, 0, 0)), 2, x -> x.guess(4));
        in(several.then(x -> x.correct(0, 1, 0, 0), x -> x.correct(0, 2, 0, 23)), 3, x -> x.guess(4));
        in(several, 0, x -> x.guess(1));
        State onlyBelowNothing = States.TWO_COPIES.then(x -> x.slip(7, 7), x -> x.copy(0, 0, 0, false),
                x -> x.correct(0, 0, 2, 7));
        in(onlyBelowNothing, 0, x -> x.guess(1));
        in(States.ALL_COPIES, 1, x -> x.guess(39));
    }

    private void madeByItself() {
        terms("An error may have been made by itself in each copy that has it, but whose guess does not have it; also"
                + " in the copy 0, if that has it");
        State two = States.TWO_COPIES;
        in(two, 1, x -> x.sources(0, 1));
        in(two, 0, x -> x.sources(0, 2));
        in(two.then(x -> x.copy(1, 0, 0, false)), 1, x -> x.sources(0, 1));
        in(two.then(x -> x.slip(0, 1), x -> x.copy(0, 0, 0, true)), 2, x -> x.sources(0, 1));
        in(two.then(x -> x.slip(0, 2), x -> x.copy(1, 0, 0, true)), 1, x -> x.sources(0, 1));
        in(two.then(x -> x.slip(0, 2), x -> x.copy(1, 0, 0, true)), 1, x -> x.sources(0, 2));
        in(two.then(x -> x.correct(0, 0, 1, 0)), 1, x -> x.sources(0, 1));
        in(two.then(x -> x.correct(0, 0, 1, 0), x -> x.correct(0, 1, 0, 23)), 0, x -> x.sources(23, 9));
        in(States.ALL_COPIES, 1, x -> x.sources(23, 9));
        State allTold = States.TWO_COPIES.thenTimes(38,
                number -> x -> number % 2 == 0 ? x.slip(0, 1) : x.copy(0, 0, 0, true));
        in(allTold, 20, x -> x.sources(0, 1));
    }

    private void corrections() {
        terms("A corrector in a house sees two copies that are there, and finds them unlike at a place: the one gets"
                + " the reading of the other one there, and a letter is written: that place, the reading that was"
                + " there, and the one that is there then");
        State two = States.TWO_COPIES;
        State right = two.then(x -> x.correct(0, 1, 0, 23));
        readings(right, 1, 0, 1);
        readings(right, 0);
        in(right, 2390, x -> x.letter(0));
        State wrong = two.then(x -> x.correct(0, 0, 1, 23));
        readings(wrong, 1, 0, 1, 23, 9);
        readings(wrong, 0, 23, 9);
        in(wrong, 2309, x -> x.letter(0));
        notNow(wrong, x -> x.correct(0, 0, 1, 23));
        notNow(two, x -> x.correct(0, 1, 0, 1));
        notNow(two, x -> x.correct(0, 1, 1, 0));
        notNowEach(two, house -> x -> x.correct(house, 1, 0, 0), 1, 4);
        notNowEach(States.LENT, house -> x -> x.correct(house, 1, 0, 0), 0, 1);
        notNowEach(States.LENT, house -> x -> x.correct(house, 0, 1, 0), 0, 1);
        in(States.LENT.then(x -> x.lend(1, 1, 1, 0)), 0, x -> x.correct(1, 1, 0, 0));
        in(States.BACK, 0, x -> x.correct(0, 1, 0, 0));
    }

    private void numbersOfLetters() {
        terms("Letters are numbered from 0 on; at most 60 are written");
        noSuchEach(States.FOUR_COPIES, letter -> x -> x.letter(letter), -1, 0);
        in(States.FOUR_COPIES, 0, x -> x.correct(0, 3, 1, 0));
        in(States.ALL_LETTERS_BUT_ONE, 59, x -> x.letters());
        in(States.ALL_LETTERS_BUT_ONE, 59, x -> x.correct(0, 3, 2, 0));
        in(States.ALL_LETTERS, 60, x -> x.letters());
        in(States.ALL_LETTERS, 1, x -> x.letter(0));
        in(States.ALL_LETTERS, 12, x -> x.letter(59));
        noSuchEach(States.ALL_LETTERS, letter -> x -> x.letter(letter), -1, 60);
        notNow(States.ALL_LETTERS, x -> x.correct(0, 3, 1, 0));
        notNow(States.ALL_LETTERS, x -> x.correct(0, 0, 1, 0));
    }

    private void houseHasTheLetter() {
        terms("The house has the letter");
        State two = States.LENT.then(x -> x.lend(1, 1, 1, 0), x -> x.correct(1, 1, 0, 0));
        in(two, true, x -> x.hasLetter(1, 0));
        inEach(two, false, house -> x -> x.hasLetter(house, 0), 0, 2, 3, 4);
        for (int letter = 0; letter < 60; letter++) {
            int l = letter;
            in(States.ALL_LETTERS, true, x -> x.hasLetter(0, l));
            inEach(States.ALL_LETTERS, false, house -> x -> x.hasLetter(house, l), 1, 2, 3, 4);
        }
    }

    private void lettersWorkedIn() {
        terms("When the letters of a house are worked into a copy that is there, they are gone through by rising"
                + " numbers, and each one whose place has the reading that was there changes it to the other one");
        State rising = States.FOUR_COPIES.then(x -> x.correct(0, 3, 1, 0), x -> x.correct(0, 3, 2, 0));
        in(rising, 2, x -> x.workIn(0, 0));
        in(rising, 1, x -> x.workIn(0, 1));
        in(rising, 0, x -> x.workIn(0, 2));
        readings(rising.then(x -> x.workIn(0, 0)), 0, 0, 2);
        State falling = States.FOUR_COPIES.then(x -> x.copy(1, 0, 0, false),
                x -> x.correct(0, 4, 2, 0), x -> x.correct(0, 3, 1, 0), x -> x.copy(0, 0, 0, false));
        in(falling, 1, x -> x.workIn(0, 5));
        readings(falling.then(x -> x.workIn(0, 5)), 5, 0, 1);
        in(falling.then(x -> x.workIn(0, 5)), 1, x -> x.workIn(0, 5));
        in(States.ALL_LETTERS, 60, x -> x.workIn(0, 0));
        in(States.ALL_LETTERS, 59, x -> x.workIn(0, 1));
        in(States.ALL_LETTERS, 58, x -> x.workIn(0, 2));
        State lent = rising.then(x -> x.lend(1, 1, 1, 0), x -> x.correct(0, 3, 0, 0));
        in(lent, 1, x -> x.workIn(1, 1));
        readings(lent.then(x -> x.workIn(1, 1)), 1, 0, 2);
        notNow(lent, x -> x.workIn(0, 1));
    }

    private void lettersTravel() {
        terms("When a copy is lent, and when it is given back, the house to which it goes gets all letters that the"
                + " other one has");
        State lent = States.ALL_LETTERS.then(x -> x.lend(0, 4, 1, 0));
        for (int letter = 0; letter < 60; letter++) {
            int l = letter;
            inEach(lent, true, house -> x -> x.hasLetter(house, l), 0, 4);
            inEach(lent, false, house -> x -> x.hasLetter(house, l), 1, 2, 3);
        }
        State written = States.FOUR_COPIES.then(x -> x.correct(0, 3, 1, 0),
                x -> x.lend(1, 1, 1, 0), x -> x.lend(2, 1, 1, 0), x -> x.correct(0, 3, 0, 0),
                x -> x.correct(1, 1, 2, 0));
        in(written, true, x -> x.hasLetter(1, 0));
        in(written, false, x -> x.hasLetter(1, 1));
        in(written, false, x -> x.hasLetter(0, 2));
        State oneMoreLent = written.then(x -> x.lend(0, 1, 1, 0));
        in(oneMoreLent, true, x -> x.hasLetter(1, 1));
        in(oneMoreLent, false, x -> x.hasLetter(0, 2));
        State back = written.then(x -> x.giveBack(0));
        inEach(back, true, letter -> x -> x.hasLetter(0, letter), 0, 1, 2);
        in(back, false, x -> x.hasLetter(1, 1));
        inEach(back.then(x -> x.lend(0, 2, 1, 0)), true, letter -> x -> x.hasLetter(2, letter), 0, 1, 2);
        State lentFromAnother = written.then(x -> x.copy(1, 0, 1, false), x -> x.lend(4, 3, 1, 0));
        inEach(lentFromAnother, true, letter -> x -> x.hasLetter(3, letter), 0, 2);
        in(lentFromAnother, false, x -> x.hasLetter(3, 1));
    }

    private void numbersOfLoans() {
        terms("Loans are numbered from 0 on; at most 40 are made");
        noSuchEach(NEW, loan -> x -> x.late(loan), -1, 0);
        in(NEW, 0, x -> x.lend(0, 1, 1, 1));
        in(States.ALL_LOANS_BUT_ONE, 39, x -> x.loans());
        in(States.ALL_LOANS_BUT_ONE, 39, x -> x.lend(0, 1, 1, 1));
        in(States.ALL_LOANS, 40, x -> x.loans());
        in(States.ALL_LOANS, true, x -> x.isBack(39));
        noSuchEach(States.ALL_LOANS, loan -> x -> x.isBack(loan), -1, 40);
        notNow(States.ALL_LOANS, x -> x.lend(0, 1, 1, 1));
        notNow(States.ALL_LOANS, x -> x.lend(0, 2, 1, 0));
    }

    private void lending() {
        terms("A copy that is in the house to which it belongs is lent to another house for some days, 1 to 100,"
                + " against a pledge, 0 to 50 coins, which that house lays down; it is in that house then, until it is"
                + " given back");
        inEach(NEW, 0, days -> x -> x.lend(0, 4, days, 7), 1, 100);
        outOfRangeEach(NEW, days -> x -> x.lend(0, 4, days, 7), 0, 101, -1);
        inEach(NEW, 0, pledge -> x -> x.lend(0, 4, 7, pledge), 0, 50);
        outOfRangeEach(NEW, pledge -> x -> x.lend(0, 4, 7, pledge), -1, 51);
        State lent = NEW.then(x -> x.lend(0, 4, 7, 50));
        in(lent, 50, x -> x.coins(4));
        in(lent, 50, x -> x.laidDown(4));
        in(lent, 100, x -> x.coins(0));
        in(lent, 0, x -> x.laidDown(0));
        in(lent, 4, x -> x.houseOf(0));
        in(lent, 0, x -> x.ownerOf(0));
        in(lent.then(x -> x.pass(200)), 4, x -> x.houseOf(0));
        in(lent.then(x -> x.giveBack(0)), 0, x -> x.houseOf(0));
        notNowEach(lent, house -> x -> x.lend(0, house, 1, 0), 0, 1, 2, 3, 4);
        notNow(NEW, x -> x.lend(0, 0, 1, 0));
    }

    private void lateness() {
        terms("It is late behind its last day, which is as many days behind that of lending");
        State lent = NEW.then(x -> x.pass(5), x -> x.lend(0, 1, 3, 0));
        in(lent, 0, x -> x.late(0));
        in(lent.then(x -> x.pass(3)), 0, x -> x.late(0));
        in(lent.then(x -> x.pass(4)), 1, x -> x.late(0));
        State longest = NEW.then(x -> x.pass(5), x -> x.lend(0, 1, 100, 0));
        in(longest.then(x -> x.pass(100)), 0, x -> x.late(0));
        in(longest.then(x -> x.pass(101)), 1, x -> x.late(0));
        State longAgo = NEW.then(x -> x.lend(0, 1, 1, 0)).thenTimes(10, times -> x -> x.pass(200));
        in(longAgo, 1999, x -> x.late(0));
        State behindTheEnd = States.LAST_DAY.then(x -> x.lend(0, 1, 1, 0));
        in(behindTheEnd, 0, x -> x.late(0));
    }

    private static State lateBy(int days, int pledge) {
        return NEW.then(x -> x.pass(5), x -> x.lend(0, 1, 3, pledge), x -> x.pass(3 + days));
    }

    private void lost(State late, int pledge, int lost) {
        in(late, lost, x -> x.giveBack(0));
        State back = late.then(x -> x.giveBack(0));
        in(back, 100 - lost, x -> x.coins(1));
        in(back, 0, x -> x.laidDown(1));
        in(back, 100 + lost, x -> x.coins(0));
        in(late, 100 - pledge, x -> x.coins(1));
        in(late, 100, x -> x.coins(0));
    }

    private void pledges() {
        terms("When it is given back, the pledge goes back; but if it is late by at most 10 days, half of it, rounded"
                + " up, goes to the house that lent the copy, and the whole of it, if it is later");
        for (int pledge : new int[] {0, 1, 2, 3, 49, 50}) {
            int half = pledge / 2 + pledge % 2;
            lost(lateBy(-1, pledge), pledge, 0);
            lost(lateBy(0, pledge), pledge, 0);
            lost(lateBy(1, pledge), pledge, half);
            lost(lateBy(10, pledge), pledge, half);
            lost(lateBy(11, pledge), pledge, pledge);
            lost(lateBy(197, pledge), pledge, pledge);
        }
        State fromTheHouse1 = NEW.then(x -> x.lend(0, 1, 1, 50), x -> x.copy(0, 0, 1, false),
                x -> x.lend(1, 2, 20, 41), x -> x.pass(30));
        in(fromTheHouse1, 21, x -> x.giveBack(1));
        State back = fromTheHouse1.then(x -> x.giveBack(1));
        in(back, 79, x -> x.coins(2));
        in(back, 71, x -> x.coins(1));
        in(back, 50, x -> x.laidDown(1));
        in(back, 100, x -> x.coins(0));
    }

    private void throwingChangesNothing() {
        terms("A call that throws an exception changes nothing");
        State rich = States.RICH;
        noSuch(rich, x -> x.slip(24, 1));
        outOfRange(rich, x -> x.slip(7, 10));
        notNow(rich.then(x -> x.slip(9, 9), x -> x.slip(10, 1), x -> x.slip(11, 1), x -> x.slip(12, 1)),
                x -> x.slip(13, 1));
        noSuch(rich, x -> x.copy(3, 6, 1, true));
        notNow(rich, x -> x.copy(3, 5, 0, true));
        noSuch(rich, x -> x.tellModel(5));
        notNow(rich, x -> x.tellModel(1));
        notNow(rich, x -> x.tellModel(0));
        outOfRange(rich, x -> x.pass(201));
        noSuch(rich, x -> x.correct(1, 3, 1, 24));
        notNow(rich, x -> x.correct(1, 3, 2, 1));
        notNow(rich, x -> x.correct(1, 3, 3, 0));
        noSuch(rich, x -> x.workIn(1, 5));
        notNow(rich, x -> x.workIn(0, 1));
        noSuch(rich, x -> x.lend(2, 5, 1, 1));
        outOfRange(rich, x -> x.lend(2, 1, 0, 1));
        outOfRange(rich, x -> x.lend(2, 1, 1, 51));
        notNow(rich, x -> x.lend(0, 1, 1, 1));
        notNow(rich, x -> x.lend(2, 0, 1, 1));
        notNow(rich.then(x -> x.copy(3, 0, 1, false), x -> x.lend(5, 3, 1, 50)), x -> x.lend(2, 3, 1, 1));
        noSuch(rich, x -> x.giveBack(4));
        notNow(rich, x -> x.giveBack(1));
        outOfRange(rich, x -> x.spread(0, 0));
        outOfRange(rich, x -> x.sources(0, 10));
    }

    private void firstNamedIsThrown() {
        terms("If several exceptions apply, the one that is named first in the throws clause is thrown");
        noSuch(NEW, x -> x.slip(24, 10));
        noSuch(States.FULL_DRAFT, x -> x.slip(24, 1));
        noSuch(States.FULL_DRAFT, x -> x.slip(-1, -2));
        outOfRange(States.FULL_DRAFT, x -> x.slip(6, 10));
        outOfRange(States.FULL_DRAFT, x -> x.slip(6, -2));
        noSuch(NEW, x -> x.copy(0, 6, 1, false));
        noSuch(States.ALL_COPIES, x -> x.copy(40, 0, 0, false));
        noSuch(States.ALL_COPIES, x -> x.copy(0, -1, 0, false));
        noSuch(States.ALL_COPIES, x -> x.copy(0, 0, 5, false));
        outOfRange(States.LAST_DAY, x -> x.pass(0));
        outOfRange(States.LAST_DAY, x -> x.pass(201));
        noSuch(States.TWO_COPIES, x -> x.correct(1, 1, 0, 24));
        noSuch(States.TWO_COPIES, x -> x.correct(1, 1, 2, 0));
        noSuch(States.TWO_COPIES, x -> x.correct(1, 2, 1, 0));
        noSuch(States.ALL_LETTERS, x -> x.correct(0, 3, 1, 24));
        noSuch(States.ALL_LETTERS, x -> x.correct(5, 3, 1, 0));
        noSuch(NEW, x -> x.workIn(5, 0));
        noSuch(NEW, x -> x.workIn(1, 1));
        noSuch(NEW, x -> x.lend(1, 1, 0, 0));
        noSuch(NEW, x -> x.lend(0, 5, 1, 51));
        noSuch(States.ALL_LOANS, x -> x.lend(1, 1, 1, 1));
        noSuch(States.LENT, x -> x.lend(0, 5, 1, 1));
        outOfRange(NEW, x -> x.lend(0, 0, 0, 0));
        outOfRange(States.LENT, x -> x.lend(0, 2, 101, 0));
        outOfRange(States.LENT, x -> x.lend(0, 2, 1, -1));
        outOfRange(States.LENT, x -> x.lend(1, 1, 1, 51));
        outOfRange(States.ALL_LOANS, x -> x.lend(0, 1, 1, 51));
        noSuch(NEW, x -> x.spread(24, 0));
        noSuch(NEW, x -> x.spread(-1, 10));
        noSuch(NEW, x -> x.sources(24, 0));
        noSuch(NEW, x -> x.sources(-1, 10));
    }

    private void noSuchNumbers() {
        terms("A method that takes a place, a house, a scribe, a copy, a letter or a loan throws"
                + " IndexOutOfBoundsException if there is no such one");
        State rich = States.RICH;
        noSuchEach(rich, place -> x -> x.slip(place, 1), -1, 24);
        noSuchEach(rich, copy -> x -> x.copy(copy, 0, 1, false), -1, 5);
        noSuchEach(rich, scribe -> x -> x.copy(3, scribe, 1, false), -1, 6);
        noSuchEach(rich, house -> x -> x.copy(3, 0, house, false), -1, 5);
        noSuchEach(rich, copy -> x -> x.tellModel(copy), -1, 5);
        noSuchEach(rich, house -> x -> x.correct(house, 3, 1, 4), -1, 5);
        noSuchEach(rich, copy -> x -> x.correct(1, copy, 1, 4), -1, 5);
        noSuchEach(rich, copy -> x -> x.correct(1, 3, copy, 4), -1, 5);
        noSuchEach(rich, place -> x -> x.correct(1, 3, 1, place), -1, 24);
        noSuchEach(rich, house -> x -> x.workIn(house, 3), -1, 5);
        noSuchEach(rich, copy -> x -> x.workIn(1, copy), -1, 5);
        noSuchEach(rich, copy -> x -> x.lend(copy, 1, 1, 1), -1, 5);
        noSuchEach(rich, house -> x -> x.lend(2, house, 1, 1), -1, 5);
        noSuchEach(rich, loan -> x -> x.giveBack(loan), -1, 4);
        noSuchEach(rich, copy -> x -> x.reading(copy, 0), -1, 5);
        noSuchEach(rich, place -> x -> x.reading(3, place), -1, 24);
        noSuchEach(rich, copy -> x -> x.errors(copy), -1, 5);
        noSuchEach(rich, copy -> x -> x.shared(copy, 4), -1, 5);
        noSuchEach(rich, copy -> x -> x.shared(4, copy), -1, 5);
        noSuchEach(rich, copy -> x -> x.houseOf(copy), -1, 5);
        noSuchEach(rich, copy -> x -> x.ownerOf(copy), -1, 5);
        noSuchEach(rich, copy -> x -> x.toldModel(copy), -1, 5);
        noSuchEach(rich, scribe -> x -> x.slips(scribe), -1, 6);
        noSuchEach(rich, copy -> x -> x.family(copy), -1, 5);
        noSuchEach(rich, copy -> x -> x.familyByErrors(copy), -1, 5);
        noSuchEach(rich, copy -> x -> x.guess(copy), -1, 5);
        noSuchEach(rich, place -> x -> x.spread(place, 1), -1, 24);
        noSuchEach(rich, place -> x -> x.sources(place, 1), -1, 24);
        noSuchEach(rich, house -> x -> x.hasLetter(house, 0), -1, 5);
        noSuchEach(rich, letter -> x -> x.hasLetter(0, letter), -1, 2);
        noSuchEach(rich, letter -> x -> x.letter(letter), -1, 2);
        noSuchEach(rich, loan -> x -> x.isBack(loan), -1, 4);
        noSuchEach(rich, loan -> x -> x.late(loan), -1, 4);
        noSuchEach(rich, house -> x -> x.coins(house), -1, 5);
        noSuchEach(rich, house -> x -> x.laidDown(house), -1, 5);
    }

    private void askingChangesNothing() {
        terms("Ahead of the calls day, copies, reading, errors, shared, houseOf, ownerOf, toldModel, slips the"
                + " interface says: ---- copies as they are; nothing from here on changes anything");
        List<State.Call> queries = List.of(x -> x.day(), x -> x.copies(), x -> x.reading(1, 0), x -> x.errors(1),
                x -> x.shared(1, 2), x -> x.houseOf(1), x -> x.ownerOf(1), x -> x.toldModel(1), x -> x.toldModel(2),
                x -> x.slips(0), x -> x.family(2), x -> x.familyByErrors(2), x -> x.families(), x -> x.guess(2),
                x -> x.rightGuesses(), x -> x.spread(0, 1), x -> x.sources(0, 1), x -> x.letters(),
                x -> x.hasLetter(2, 1), x -> x.letter(1), x -> x.loans(), x -> x.isBack(0), x -> x.late(0),
                x -> x.late(1), x -> x.coins(1), x -> x.laidDown(1));
        for (State.Call query : queries) {
            changesNothing(States.RICH, query);
        }
    }
}
