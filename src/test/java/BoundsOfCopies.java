import java.util.List;

/** Promises 1 to 5 and 10 to 18. */
final class BoundsOfCopies extends Bounds {
    private static final State NEW = State.NEW;

    @Override
    List<Runnable> tests() {
        return List.of(this::newObject,
                this::slipSets, this::slipReading, this::slipAnswer, this::slipNoPlace, this::slipOutOfRange,
                this::slipFullDraft,
                this::copyMakes, this::copyIsTold, this::copyAnswer, this::copyNoSuch, this::copyNotNow,
                this::tellModelTells, this::tellModelAnswer, this::tellModelNoCopy, this::tellModelNotNow,
                this::passLetsDaysGoBy, this::passDays, this::passAnswer, this::passOutOfRange, this::passLastDay,
                this::day, this::copies, this::reading, this::readingNoSuch, this::errors, this::errorsNoCopy,
                this::shared, this::sharedNoCopy, this::houseOf, this::houseOfNoCopy, this::ownerOf,
                this::ownerOfNoCopy, this::toldModel, this::toldModelAnswer, this::toldModelNoCopy, this::slips,
                this::slipsNoScribe);
    }

    private void newObject() {
        promise(1, "The copy 0 alone; the day 0; an empty draft");
        in(NEW, 1, x -> x.copies());
        noSuch(NEW, x -> x.errors(1));
        in(NEW, 0, x -> x.day());
        inEach(NEW, 0, place -> x -> x.slip(place, -1), 0, 5, 6, 23);
        inEach(NEW, 1, place -> x -> x.slip(place, 0), 0, 5, 6, 23);
        readings(NEW.then(x -> x.copy(0, 0, 0, false)), 1);
        in(NEW, 0, x -> x.letters());
        in(NEW, 0, x -> x.loans());
    }

    private void slipSets() {
        promise(2, "Sets a reading of the draft");
        State set = NEW.then(x -> x.slip(0, 1), x -> x.slip(23, 9), x -> x.slip(4, 4));
        readings(set.then(x -> x.copy(0, 0, 0, false)), 1, 0, 1, 4, 4, 23, 9);
        readings(set.then(x -> x.slip(23, 8), x -> x.copy(0, 0, 0, false)), 1, 0, 1, 4, 4, 23, 8);
        readings(set.then(x -> x.slip(4, -1), x -> x.copy(0, 0, 0, false)), 1, 0, 1, 23, 9);
        readings(set.then(x -> x.slip(4, 0), x -> x.copy(0, 0, 0, false)), 1, 0, 1, 23, 9);
        readings(set, 0);
    }

    private void slipReading() {
        promise(2, "reading: 0 to 9; -1 for none");
        inEach(NEW, 1, reading -> x -> x.slip(3, reading), 0, 1, 2, 3, 4, 5, 6, 7, 8, 9);
        in(NEW, 0, x -> x.slip(3, -1));
        outOfRangeEach(NEW, reading -> x -> x.slip(3, reading), -2, 10);
        State model = NEW.then(x -> x.slip(3, 3), x -> x.copy(0, 0, 0, false));
        readings(model.then(x -> x.slip(3, 0), x -> x.copy(1, 0, 0, false)), 2);
        readings(model.then(x -> x.slip(3, 9), x -> x.copy(1, 0, 0, false)), 2, 3, 9);
        readings(model.then(x -> x.slip(3, 9), x -> x.slip(3, -1), x -> x.copy(1, 0, 0, false)), 2, 3, 3);
    }

    private void slipAnswer() {
        promise(2, "Returns for how many places the draft has a reading then");
        State filled = NEW;
        for (int place = 0; place < 6; place++) {
            int p = place;
            in(filled, p, x -> x.slip(p, -1));
            in(filled, p + 1, x -> x.slip(p, p));
            filled = filled.then(x -> x.slip(p, p));
            in(filled, p + 1, x -> x.slip(p, 9));
            in(filled, p + 1, x -> x.slip(23, -1));
            in(filled, p, x -> x.slip(p, -1));
        }
        in(filled.thenTimes(5, place -> x -> x.slip(place, -1)), 0, x -> x.slip(5, -1));
    }

    private void slipNoPlace() {
        promise(2, "Throws IndexOutOfBoundsException if there is no such place");
        inEach(NEW, 1, place -> x -> x.slip(place, 9), 0, 23);
        noSuchEach(NEW, place -> x -> x.slip(place, 9), -1, 24);
        noSuchEach(NEW, place -> x -> x.slip(place, -1), -1, 24);
        noSuchEach(States.FULL_DRAFT, place -> x -> x.slip(place, -1), -1, 24);
    }

    private void slipOutOfRange() {
        promise(2, "Throws IllegalArgumentException if reading is out of range");
        inEach(States.FULL_DRAFT, 6, reading -> x -> x.slip(0, reading), 0, 9);
        in(States.FULL_DRAFT, 5, x -> x.slip(0, -1));
        outOfRangeEach(States.FULL_DRAFT, reading -> x -> x.slip(0, reading), -2, 10);
        outOfRangeEach(NEW, reading -> x -> x.slip(23, reading), -2, 10);
    }

    private void slipFullDraft() {
        promise(2, "Throws IllegalStateException if the draft has readings for 6 other places, and reading is not -1");
        State full = States.FULL_DRAFT;
        State oneLess = full.then(x -> x.slip(2, -1));
        inEach(oneLess, 6, place -> x -> x.slip(place, 0), 2, 6, 23);
        notNowEach(full, reading -> x -> x.slip(6, reading), 0, 1, 9);
        notNowEach(full, place -> x -> x.slip(place, 1), 7, 23);
        inEach(full, 6, place -> x -> x.slip(place, -1), 6, 23);
        inEach(full, 6, place -> x -> x.slip(place, 0), 0, 5);
        inEach(full, 6, place -> x -> x.slip(place, 9), 0, 5);
        inEach(full, 5, place -> x -> x.slip(place, -1), 0, 5);
        State fullOfRight = NEW.thenTimes(6, place -> x -> x.slip(place, 0));
        notNow(fullOfRight, x -> x.slip(6, 0));
        in(full.then(x -> x.copy(0, 0, 0, false)), 1, x -> x.slip(6, 1));
    }

    private void copyMakes() {
        promise(3, "A scribe makes a copy");
        State made = States.LENT.then(x -> x.slip(9, 9), x -> x.copy(0, 5, 1, true));
        in(made, 3, x -> x.copies());
        in(made, 1, x -> x.slips(5));
        in(made, 1, x -> x.houseOf(2));
        in(made, 1, x -> x.ownerOf(2));
        in(made, 0, x -> x.toldModel(2));
        readings(made, 2, 9, 9);
        in(made, 0, x -> x.slip(9, -1));
    }

    private void copyIsTold() {
        promise(3, "isTold: whether the model is told");
        in(States.TWO_COPIES.then(x -> x.copy(1, 0, 0, true)), 1, x -> x.toldModel(2));
        in(States.TWO_COPIES.then(x -> x.copy(1, 0, 0, false)), -1, x -> x.toldModel(2));
        families(NEW.then(x -> x.copy(0, 0, 0, true)), 0, 0);
        families(NEW.then(x -> x.copy(0, 0, 0, false)), 0, 1);
    }

    private void copyAnswer() {
        promise(3, "Returns its number");
        in(NEW, 1, x -> x.copy(0, 0, 0, false));
        in(States.TWO_COPIES, 2, x -> x.copy(0, 0, 0, true));
        for (int copies = 1; copies < 40; copies++) {
            in(NEW.thenTimes(copies - 1, model -> x -> x.copy(model, 0, 0, false)), copies,
                    x -> x.copy(0, 0, 0, false));
        }
    }

    private void copyNoSuch() {
        promise(3, "Throws IndexOutOfBoundsException if there is no such copy, scribe or house");
        State two = States.TWO_COPIES.then(x -> x.slip(3, 3));
        inEach(two, 2, model -> x -> x.copy(model, 0, 0, true), 0, 1);
        noSuchEach(two, model -> x -> x.copy(model, 0, 0, true), -1, 2, 39, 40);
        inEach(two, 2, scribe -> x -> x.copy(0, scribe, 0, true), 0, 5);
        noSuchEach(two, scribe -> x -> x.copy(0, scribe, 0, true), -1, 6);
        State inTheLastHouse = two.then(x -> x.lend(0, 4, 1, 0));
        in(inTheLastHouse, 2, x -> x.copy(0, 0, 4, true));
        noSuchEach(inTheLastHouse, house -> x -> x.copy(0, 0, house, true), -1, 5);
    }

    private void copyNotNow() {
        promise(3, "Throws IllegalStateException if the model is not in the house, or there are 40 copies");
        State drafted = States.TWO_COPIES.then(x -> x.slip(3, 3));
        in(drafted, 2, x -> x.copy(0, 0, 0, false));
        notNowEach(drafted, house -> x -> x.copy(0, 0, house, false), 1, 2, 3, 4);
        State lent = drafted.then(x -> x.lend(0, 1, 1, 0));
        in(lent, 2, x -> x.copy(0, 0, 1, false));
        notNowEach(lent, house -> x -> x.copy(0, 0, house, true), 0, 2, 3, 4);
        State back = lent.then(x -> x.giveBack(0));
        in(back, 2, x -> x.copy(0, 0, 0, false));
        notNow(back, x -> x.copy(0, 0, 1, false));
        in(States.ALL_COPIES_BUT_ONE, 39, x -> x.copy(0, 0, 0, true));
        notNow(States.ALL_COPIES, x -> x.copy(0, 0, 0, true));
        notNow(States.ALL_COPIES, x -> x.copy(39, 5, 0, false));
    }

    private void tellModelTells() {
        promise(4, "Tells the model of a copy, as it was");
        State made = States.TWO_COPIES.then(x -> x.copy(1, 0, 0, false));
        in(made.then(x -> x.tellModel(2)), 1, x -> x.toldModel(2));
        in(made.then(x -> x.tellModel(2)), -1, x -> x.toldModel(1));
        State changed = made.then(x -> x.correct(0, 1, 0, 0), x -> x.correct(0, 1, 0, 23), x -> x.lend(1, 4, 1, 0));
        in(changed.then(x -> x.tellModel(2)), 1, x -> x.toldModel(2));
        in(changed.then(x -> x.tellModel(2)), 1, x -> x.guess(2));
        families(changed.then(x -> x.tellModel(2)), 0, 1, 1);
        readings(changed.then(x -> x.tellModel(2)), 2, 0, 1, 23, 9);
    }

    private void tellModelAnswer() {
        promise(4, "Returns the family of the copy then");
        State row = NEW.thenTimes(39, model -> x -> x.copy(model, 0, 0, false));
        in(row, 38, x -> x.tellModel(39));
        in(row, 0, x -> x.tellModel(1));
        in(row.then(x -> x.tellModel(38)), 37, x -> x.tellModel(39));
        in(row.then(x -> x.tellModel(39)), 37, x -> x.tellModel(38));
        State shared = States.FOUR_COPIES.then(x -> x.slip(0, 1), x -> x.copy(3, 0, 0, false));
        in(shared, 1, x -> x.tellModel(4));
        families(shared.then(x -> x.tellModel(4)), 0, 1, 2, 1, 1);
        in(States.FOUR_COPIES.then(x -> x.copy(2, 0, 0, false)), 2, x -> x.tellModel(4));
    }

    private void tellModelNoCopy() {
        promise(4, "Throws IndexOutOfBoundsException if there is no such copy");
        in(States.TWO_COPIES, 0, x -> x.tellModel(1));
        noSuchEach(States.TWO_COPIES, copy -> x -> x.tellModel(copy), -1, 2, 40);
        in(States.ALL_COPIES, 1, x -> x.tellModel(39));
        noSuchEach(States.ALL_COPIES, copy -> x -> x.tellModel(copy), -1, 40);
    }

    private void tellModelNotNow() {
        promise(4, "Throws IllegalStateException if it is the copy 0, or its model is told");
        notNow(NEW, x -> x.tellModel(0));
        notNow(States.TWO_COPIES, x -> x.tellModel(0));
        in(States.TWO_COPIES, 0, x -> x.tellModel(1));
        notNow(States.TWO_COPIES.then(x -> x.tellModel(1)), x -> x.tellModel(1));
        notNow(NEW.then(x -> x.copy(0, 0, 0, true)), x -> x.tellModel(1));
    }

    private void passLetsDaysGoBy() {
        promise(5, "Lets days go by");
        in(NEW.then(x -> x.pass(1)), 1, x -> x.day());
        in(NEW.then(x -> x.pass(1), x -> x.pass(200)), 201, x -> x.day());
        in(States.LENT.then(x -> x.pass(17)), 7, x -> x.late(0));
    }

    private void passDays() {
        promise(5, "days: 1 to 200");
        in(NEW, 1, x -> x.pass(1));
        in(NEW, 200, x -> x.pass(200));
        outOfRangeEach(NEW, days -> x -> x.pass(days), 0, 201, -1);
    }

    private void passAnswer() {
        promise(5, "Returns the day then");
        in(NEW.then(x -> x.pass(3)), 7, x -> x.pass(4));
        in(States.DAY_1800, 1801, x -> x.pass(1));
        in(States.DAY_1800, 2000, x -> x.pass(200));
    }

    private void passOutOfRange() {
        promise(5, "Throws IllegalArgumentException if days is out of range");
        inEach(States.RICH, 13, days -> x -> x.pass(days), 1);
        inEach(States.RICH, 212, days -> x -> x.pass(days), 200);
        outOfRangeEach(States.RICH, days -> x -> x.pass(days), 0, 201, -1);
        outOfRangeEach(States.LAST_DAY, days -> x -> x.pass(days), 0, 201, -1);
    }

    private void passLastDay() {
        promise(5, "Throws IllegalStateException if it would be above 2000");
        in(States.DAY_1800, 2000, x -> x.pass(200));
        State day1801 = States.DAY_1800.then(x -> x.pass(1));
        in(day1801, 2000, x -> x.pass(199));
        notNow(day1801, x -> x.pass(200));
        State day1999 = day1801.then(x -> x.pass(198));
        in(day1999, 2000, x -> x.pass(1));
        notNowEach(day1999, days -> x -> x.pass(days), 2, 200);
        notNowEach(States.LAST_DAY, days -> x -> x.pass(days), 1, 200);
    }

    private void day() {
        promise(10, "Returns the day of now");
        in(NEW, 0, x -> x.day());
        in(NEW.then(x -> x.pass(1)), 1, x -> x.day());
        in(States.DAY_1800, 1800, x -> x.day());
        in(States.LAST_DAY, 2000, x -> x.day());
    }

    private void copies() {
        promise(11, "Returns how many copies there are");
        in(NEW, 1, x -> x.copies());
        in(States.TWO_COPIES, 2, x -> x.copies());
        in(States.ALL_COPIES_BUT_ONE, 39, x -> x.copies());
        in(States.ALL_COPIES, 40, x -> x.copies());
    }

    private void reading() {
        promise(12, "Returns the reading of a copy at a place");
        readings(NEW, 0);
        readings(States.TWO_COPIES, 1, 0, 1, 23, 9);
        readings(States.ALL_COPIES, 39, 0, 1, 5, 5, 23, 9);
        readings(States.RICH, 1, 0, 1, 4, 4, 23, 9);
        readings(States.RICH, 2, 0, 1, 1, 2);
    }

    private void readingNoSuch() {
        promise(12, "Throws IndexOutOfBoundsException if there is no such copy or place");
        State two = States.TWO_COPIES;
        in(two, 1, x -> x.reading(1, 0));
        noSuchEach(two, copy -> x -> x.reading(copy, 0), -1, 2, 39, 40);
        in(two, 9, x -> x.reading(1, 23));
        noSuchEach(two, place -> x -> x.reading(1, place), -1, 24);
        in(States.ALL_COPIES, 9, x -> x.reading(39, 23));
        noSuchEach(States.ALL_COPIES, copy -> x -> x.reading(copy, 23), -1, 40);
        noSuchEach(States.ALL_COPIES, place -> x -> x.reading(39, place), -1, 24);
    }

    private void errors() {
        promise(13, "Returns how many errors a copy has");
        in(NEW, 0, x -> x.errors(0));
        in(States.FULL_DRAFT.then(x -> x.copy(0, 0, 0, false)), 6, x -> x.errors(1));
        in(States.FULL_DRAFT.then(x -> x.slip(0, 0), x -> x.copy(0, 0, 0, false)), 5, x -> x.errors(1));
        in(States.TWO_COPIES.then(x -> x.correct(0, 0, 1, 23)), 1, x -> x.errors(0));
        in(States.TWO_COPIES.then(x -> x.correct(0, 1, 0, 23)), 1, x -> x.errors(1));
    }

    private void errorsNoCopy() {
        promise(13, "Throws IndexOutOfBoundsException if there is no such copy");
        inEach(States.ALL_COPIES, 2, copy -> x -> x.errors(copy), 1, 38);
        noSuchEach(NEW, copy -> x -> x.errors(copy), -1, 1);
        noSuchEach(States.ALL_COPIES, copy -> x -> x.errors(copy), -1, 40);
    }

    private void shared() {
        promise(14, "Returns how many errors two copies share");
        State two = States.TWO_COPIES.then(x -> x.slip(0, 2), x -> x.copy(1, 0, 0, false));
        in(two, 1, x -> x.shared(1, 2));
        in(two, 1, x -> x.shared(2, 1));
        in(two, 2, x -> x.shared(1, 1));
        in(two, 0, x -> x.shared(0, 1));
        in(two, 0, x -> x.shared(1, 0));
        in(two, 0, x -> x.shared(0, 0));
        in(States.ALL_COPIES, 2, x -> x.shared(38, 39));
    }

    private void sharedNoCopy() {
        promise(14, "Throws IndexOutOfBoundsException if there is no such copy");
        inEach(States.TWO_COPIES, 2, copy -> x -> x.shared(copy, copy), 1);
        noSuchEach(States.TWO_COPIES, copy -> x -> x.shared(copy, 1), -1, 2);
        noSuchEach(States.TWO_COPIES, copy -> x -> x.shared(1, copy), -1, 2);
        noSuchEach(States.TWO_COPIES, copy -> x -> x.shared(copy, copy), -1, 2);
        in(States.ALL_COPIES, 3, x -> x.shared(39, 39));
        noSuchEach(States.ALL_COPIES, copy -> x -> x.shared(copy, 0), -1, 40);
        noSuchEach(States.ALL_COPIES, copy -> x -> x.shared(0, copy), -1, 40);
    }

    private void houseOf() {
        promise(15, "Returns the house in which a copy is");
        in(NEW, 0, x -> x.houseOf(0));
        for (int house = 1; house <= 4; house++) {
            int h = house;
            State lent = NEW.then(x -> x.lend(0, h, 1, 0));
            in(lent, h, x -> x.houseOf(0));
            in(lent.then(x -> x.copy(0, 0, h, false)), h, x -> x.houseOf(1));
            in(lent.then(x -> x.giveBack(0)), 0, x -> x.houseOf(0));
        }
    }

    private void houseOfNoCopy() {
        promise(15, "Throws IndexOutOfBoundsException if there is no such copy");
        in(States.LENT, 1, x -> x.houseOf(0));
        in(States.LENT, 0, x -> x.houseOf(1));
        noSuchEach(States.LENT, copy -> x -> x.houseOf(copy), -1, 2);
        in(States.ALL_COPIES, 0, x -> x.houseOf(39));
        noSuchEach(States.ALL_COPIES, copy -> x -> x.houseOf(copy), -1, 40);
    }

    private void ownerOf() {
        promise(16, "Returns the house to which a copy belongs");
        in(NEW, 0, x -> x.ownerOf(0));
        for (int house = 1; house <= 4; house++) {
            int h = house;
            State lent = NEW.then(x -> x.lend(0, h, 1, 0), x -> x.copy(0, 0, h, false), x -> x.lend(1, 0, 1, 0));
            in(lent, 0, x -> x.ownerOf(0));
            in(lent, h, x -> x.ownerOf(1));
        }
    }

    private void ownerOfNoCopy() {
        promise(16, "Throws IndexOutOfBoundsException if there is no such copy");
        inEach(States.LENT, 0, copy -> x -> x.ownerOf(copy), 0, 1);
        noSuchEach(States.LENT, copy -> x -> x.ownerOf(copy), -1, 2);
        in(States.ALL_COPIES, 0, x -> x.ownerOf(39));
        noSuchEach(States.ALL_COPIES, copy -> x -> x.ownerOf(copy), -1, 40);
    }

    private void toldModel() {
        promise(17, "Returns the model of a copy, if it is told");
        State row = NEW.thenTimes(39, model -> x -> x.copy(model, 0, 0, true));
        in(row, 0, x -> x.toldModel(1));
        in(row, 38, x -> x.toldModel(39));
        in(States.TWO_COPIES.then(x -> x.tellModel(1)), 0, x -> x.toldModel(1));
    }

    private void toldModelAnswer() {
        promise(17, "Returns the model; -1 if it is not told, or for the copy 0");
        in(NEW, -1, x -> x.toldModel(0));
        in(NEW.then(x -> x.copy(0, 0, 0, true)), -1, x -> x.toldModel(0));
        in(NEW.then(x -> x.copy(0, 0, 0, true)), 0, x -> x.toldModel(1));
        in(NEW.then(x -> x.copy(0, 0, 0, false)), -1, x -> x.toldModel(1));
        inEach(States.ALL_COPIES, -1, copy -> x -> x.toldModel(copy), 0, 1, 39);
        in(States.ALL_COPIES.then(x -> x.tellModel(39)), 1, x -> x.toldModel(39));
    }

    private void toldModelNoCopy() {
        promise(17, "Throws IndexOutOfBoundsException if there is no such copy");
        inEach(States.RICH, 0, copy -> x -> x.toldModel(copy), 1);
        inEach(States.RICH, -1, copy -> x -> x.toldModel(copy), 0, 4);
        noSuchEach(States.RICH, copy -> x -> x.toldModel(copy), -1, 5);
        noSuchEach(States.ALL_COPIES, copy -> x -> x.toldModel(copy), -1, 40);
    }

    private void slips() {
        promise(18, "Returns how many slips a scribe has made");
        inEach(NEW, 0, scribe -> x -> x.slips(scribe), 0, 1, 2, 3, 4, 5);
        for (int scribe = 0; scribe < 6; scribe++) {
            int s = scribe;
            State made = States.FULL_DRAFT.then(x -> x.copy(0, s, 0, false));
            for (int other = 0; other < 6; other++) {
                int o = other;
                in(made, o == s ? 6 : 0, x -> x.slips(o));
            }
        }
        State most = NEW.thenTimes(7 * 39, number -> x -> number % 7 == 6
                ? x.copy(number / 7, 0, 0, false) : x.slip(number % 7, 1 + number / 7 % 2));
        in(most, 6 * 39, x -> x.slips(0));
    }

    private void slipsNoScribe() {
        promise(18, "Throws IndexOutOfBoundsException if there is no such scribe");
        in(States.TWO_COPIES, 2, x -> x.slips(0));
        in(States.RICH, 1, x -> x.slips(5));
        noSuchEach(States.RICH, scribe -> x -> x.slips(scribe), -1, 6);
    }
}
