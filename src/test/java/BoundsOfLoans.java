import java.util.List;

/** Promises 8, 9 and 29 to 33. */
final class BoundsOfLoans extends Bounds {
    private static final State NEW = State.NEW;

    @Override
    List<Runnable> tests() {
        return List.of(this::lendLends, this::lendDays, this::lendPledge, this::lendAnswer, this::lendNoSuch,
                this::lendOutOfRange, this::lendNotNow, this::giveBackGives, this::giveBackAnswer,
                this::giveBackNoLoan, this::giveBackNotNow, this::loans, this::isBack, this::isBackNoLoan, this::late,
                this::lateAnswer, this::lateNoLoan, this::coins, this::coinsNoHouse, this::laidDown,
                this::laidDownNoHouse);
    }

    private void lendLends() {
        promise(8, "Lends a copy");
        State lent = States.LENT;
        in(lent, 1, x -> x.houseOf(0));
        in(lent, 0, x -> x.ownerOf(0));
        in(lent, 79, x -> x.coins(1));
        in(lent, 21, x -> x.laidDown(1));
        in(lent, 100, x -> x.coins(0));
        in(lent, 0, x -> x.laidDown(0));
        in(lent, false, x -> x.isBack(0));
        in(lent, 2, x -> x.copy(0, 0, 1, false));
        in(States.BACK, 1, x -> x.lend(0, 2, 1, 0));
        State ofAnotherHouse = lent.then(x -> x.copy(0, 0, 1, false), x -> x.lend(2, 0, 5, 50));
        in(ofAnotherHouse, 0, x -> x.houseOf(2));
        in(ofAnotherHouse, 50, x -> x.coins(0));
        in(ofAnotherHouse, 79, x -> x.coins(1));
    }

    private void lendDays() {
        promise(8, "days: 1 to 100");
        inEach(NEW, 0, days -> x -> x.lend(0, 1, days, 0), 1, 100);
        outOfRangeEach(NEW, days -> x -> x.lend(0, 1, days, 0), 0, 101, -1);
        in(NEW.then(x -> x.lend(0, 1, 1, 0), x -> x.pass(2)), 1, x -> x.late(0));
        in(NEW.then(x -> x.lend(0, 1, 100, 0), x -> x.pass(101)), 1, x -> x.late(0));
        in(States.LAST_DAY, 0, x -> x.lend(0, 1, 100, 50));
    }

    private void lendPledge() {
        promise(8, "pledge: 0 to 50");
        inEach(NEW, 0, pledge -> x -> x.lend(0, 1, 1, pledge), 0, 1, 50);
        outOfRangeEach(NEW, pledge -> x -> x.lend(0, 1, 1, pledge), -1, 51);
        in(NEW.then(x -> x.lend(0, 1, 1, 0)), 100, x -> x.coins(1));
        in(NEW.then(x -> x.lend(0, 1, 1, 50)), 50, x -> x.coins(1));
    }

    private void lendAnswer() {
        promise(8, "Returns the loan");
        in(NEW, 0, x -> x.lend(0, 1, 1, 1));
        in(States.LENT, 1, x -> x.lend(1, 1, 1, 1));
        in(States.BACK, 1, x -> x.lend(0, 1, 1, 1));
        for (int loan = 0; loan < 40; loan++) {
            in(NEW.thenTimes(2 * loan, number -> x -> number % 2 == 0 ? x.lend(0, 1, 1, 1) : x.giveBack(number / 2)),
                    loan, x -> x.lend(0, 1, 1, 1));
        }
    }

    private void lendNoSuch() {
        promise(8, "Throws IndexOutOfBoundsException if there is no such copy or house");
        State two = States.TWO_COPIES;
        inEach(two, 0, copy -> x -> x.lend(copy, 1, 1, 1), 0, 1);
        noSuchEach(two, copy -> x -> x.lend(copy, 1, 1, 1), -1, 2, 40);
        inEach(two, 0, house -> x -> x.lend(0, house, 1, 1), 1, 4);
        noSuchEach(two, house -> x -> x.lend(0, house, 1, 1), -1, 5);
        State ofTheLastHouse = NEW.then(x -> x.lend(0, 4, 1, 1), x -> x.copy(0, 0, 4, false));
        in(ofTheLastHouse, 1, x -> x.lend(1, 0, 1, 1));
        noSuchEach(ofTheLastHouse, house -> x -> x.lend(1, house, 1, 1), -1, 5);
        noSuchEach(States.ALL_COPIES, copy -> x -> x.lend(copy, 1, 1, 1), -1, 40);
    }

    private void lendOutOfRange() {
        promise(8, "Throws IllegalArgumentException if days or pledge is out of range");
        State two = States.TWO_COPIES;
        inEach(two, 0, days -> x -> x.lend(0, 1, days, 50), 1, 100);
        outOfRangeEach(two, days -> x -> x.lend(0, 1, days, 50), 0, 101, -1);
        inEach(two, 0, pledge -> x -> x.lend(0, 1, 100, pledge), 0, 50);
        outOfRangeEach(two, pledge -> x -> x.lend(0, 1, 100, pledge), -1, 51);
        outOfRangeEach(two, value -> x -> x.lend(0, 1, value, value), -1, 0, 101);
        outOfRangeEach(States.LENT, days -> x -> x.lend(0, 1, days, 0), 0, 101);
        outOfRangeEach(States.LENT, pledge -> x -> x.lend(0, 1, 1, pledge), -1, 51);
    }

    private void lendNotNow() {
        promise(8, "Throws IllegalStateException if the copy belongs to the house, is lent, the house does not have so"
                + " many coins, or 40 loans were made");
        State two = States.TWO_COPIES;
        inEach(two, 0, house -> x -> x.lend(0, house, 1, 0), 1, 2, 3, 4);
        notNow(two, x -> x.lend(0, 0, 1, 0));
        State ofTheHouse1 = NEW.then(x -> x.lend(0, 1, 1, 0), x -> x.copy(0, 0, 1, false));
        inEach(ofTheHouse1, 1, house -> x -> x.lend(1, house, 1, 0), 0, 2, 3, 4);
        notNow(ofTheHouse1, x -> x.lend(1, 1, 1, 0));
        notNowEach(States.LENT, house -> x -> x.lend(0, house, 1, 0), 0, 1, 2, 3, 4);
        in(States.BACK, 1, x -> x.lend(0, 1, 1, 0));
        State sevenLeft = two.then(x -> x.copy(0, 0, 0, false), x -> x.lend(0, 1, 1, 50), x -> x.lend(1, 1, 1, 43));
        in(sevenLeft, 2, x -> x.lend(2, 1, 1, 7));
        notNowEach(sevenLeft, pledge -> x -> x.lend(2, 1, 1, pledge), 8, 50);
        in(sevenLeft, 2, x -> x.lend(2, 2, 1, 8));
        State lost = sevenLeft.then(x -> x.pass(12), x -> x.giveBack(0));
        in(lost, 2, x -> x.lend(2, 1, 1, 7));
        notNow(lost, x -> x.lend(2, 1, 1, 8));
        State half = sevenLeft.then(x -> x.pass(11), x -> x.giveBack(1));
        in(half, 2, x -> x.lend(2, 1, 1, 28));
        notNow(half, x -> x.lend(2, 1, 1, 29));
        in(States.ALL_LOANS_BUT_ONE, 39, x -> x.lend(0, 1, 1, 0));
        notNowEach(States.ALL_LOANS, house -> x -> x.lend(0, house, 1, 0), 1, 2, 3, 4);
    }

    private void giveBackGives() {
        promise(9, "Gives a copy back");
        State back = States.BACK;
        in(back, 0, x -> x.houseOf(0));
        in(back, 100, x -> x.coins(1));
        in(back, 0, x -> x.laidDown(1));
        in(back, true, x -> x.isBack(0));
        notNow(back, x -> x.copy(0, 0, 1, false));
        in(back, 2, x -> x.copy(0, 0, 0, false));
        State twoLent = States.LENT.then(x -> x.lend(1, 1, 9, 9), x -> x.giveBack(1));
        in(twoLent, 1, x -> x.houseOf(0));
        in(twoLent, 0, x -> x.houseOf(1));
        in(twoLent, 79, x -> x.coins(1));
        in(twoLent, 21, x -> x.laidDown(1));
    }

    private void giveBackAnswer() {
        promise(9, "Returns how many coins of the pledge are lost");
        State lent = States.LENT;
        in(lent, 0, x -> x.giveBack(0));
        in(lent.then(x -> x.pass(10)), 0, x -> x.giveBack(0));
        in(lent.then(x -> x.pass(11)), 11, x -> x.giveBack(0));
        in(lent.then(x -> x.pass(20)), 11, x -> x.giveBack(0));
        in(lent.then(x -> x.pass(21)), 21, x -> x.giveBack(0));
        in(lent.thenTimes(10, times -> x -> x.pass(200)), 21, x -> x.giveBack(0));
        for (int pledge = 0; pledge <= 50; pledge++) {
            int p = pledge;
            State late = NEW.then(x -> x.lend(0, 1, 1, p), x -> x.pass(11));
            in(late, p % 2 == 0 ? p / 2 : (p + 1) / 2, x -> x.giveBack(0));
            in(late.then(x -> x.pass(1)), p, x -> x.giveBack(0));
        }
    }

    private void giveBackNoLoan() {
        promise(9, "Throws IndexOutOfBoundsException if there is no such loan");
        noSuchEach(NEW, loan -> x -> x.giveBack(loan), -1, 0);
        in(States.LENT, 0, x -> x.giveBack(0));
        noSuchEach(States.LENT, loan -> x -> x.giveBack(loan), -1, 1);
        State lastLent = States.ALL_LOANS_BUT_ONE.then(x -> x.lend(0, 1, 1, 1));
        in(lastLent, 0, x -> x.giveBack(39));
        noSuchEach(lastLent, loan -> x -> x.giveBack(loan), -1, 40);
    }

    private void giveBackNotNow() {
        promise(9, "Throws IllegalStateException if it was given back");
        in(States.LENT, 0, x -> x.giveBack(0));
        notNow(States.BACK, x -> x.giveBack(0));
        notNow(States.BACK.then(x -> x.lend(0, 1, 1, 50), x -> x.pass(50)), x -> x.giveBack(0));
        in(States.BACK.then(x -> x.lend(0, 1, 1, 50), x -> x.pass(50)), 50, x -> x.giveBack(1));
        notNowEach(States.ALL_LOANS, loan -> x -> x.giveBack(loan), 0, 39);
    }

    private void loans() {
        promise(29, "Returns how many loans were made");
        in(NEW, 0, x -> x.loans());
        in(States.LENT, 1, x -> x.loans());
        in(States.BACK, 1, x -> x.loans());
        in(States.ALL_LOANS_BUT_ONE, 39, x -> x.loans());
        in(States.ALL_LOANS, 40, x -> x.loans());
    }

    private void isBack() {
        promise(30, "Tells whether a loan was given back");
        in(States.LENT, false, x -> x.isBack(0));
        in(States.BACK, true, x -> x.isBack(0));
        in(States.BACK.then(x -> x.lend(0, 1, 1, 1)), true, x -> x.isBack(0));
        in(States.BACK.then(x -> x.lend(0, 1, 1, 1)), false, x -> x.isBack(1));
        in(States.LENT.then(x -> x.pass(200)), false, x -> x.isBack(0));
        inEach(States.ALL_LOANS, true, loan -> x -> x.isBack(loan), 0, 39);
    }

    private void isBackNoLoan() {
        promise(30, "Throws IndexOutOfBoundsException if there is no such loan");
        noSuchEach(NEW, loan -> x -> x.isBack(loan), -1, 0, 40);
        in(States.RICH, true, x -> x.isBack(1));
        in(States.RICH, false, x -> x.isBack(3));
        noSuchEach(States.RICH, loan -> x -> x.isBack(loan), -1, 4);
        noSuchEach(States.ALL_LOANS, loan -> x -> x.isBack(loan), -1, 40);
    }

    private void late() {
        promise(31, "Returns how many days a loan is late now, or was when it was given back");
        State late = States.LENT.then(x -> x.pass(13));
        in(late, 3, x -> x.late(0));
        in(late.then(x -> x.pass(1)), 4, x -> x.late(0));
        State back = late.then(x -> x.giveBack(0));
        in(back, 3, x -> x.late(0));
        in(back.then(x -> x.pass(1)), 3, x -> x.late(0));
        in(back.then(x -> x.pass(200), x -> x.lend(0, 1, 1, 1), x -> x.pass(2)), 3, x -> x.late(0));
        in(back.then(x -> x.pass(200), x -> x.lend(0, 1, 1, 1), x -> x.pass(2)), 1, x -> x.late(1));
    }

    private void lateAnswer() {
        promise(31, "Returns how many; 0 if it is not late");
        State lent = States.LENT;
        in(lent, 0, x -> x.late(0));
        in(lent.then(x -> x.pass(9)), 0, x -> x.late(0));
        in(lent.then(x -> x.pass(10)), 0, x -> x.late(0));
        in(lent.then(x -> x.pass(11)), 1, x -> x.late(0));
        in(States.BACK, 0, x -> x.late(0));
        in(States.BACK.then(x -> x.pass(200)), 0, x -> x.late(0));
        in(lent.then(x -> x.pass(10), x -> x.giveBack(0), x -> x.pass(1)), 0, x -> x.late(0));
        in(lent.thenTimes(10, times -> x -> x.pass(200)), 1990, x -> x.late(0));
    }

    private void lateNoLoan() {
        promise(31, "Throws IndexOutOfBoundsException if there is no such loan");
        noSuchEach(NEW, loan -> x -> x.late(loan), -1, 0, 40);
        in(States.RICH, 7, x -> x.late(1));
        in(States.RICH, 0, x -> x.late(3));
        noSuchEach(States.RICH, loan -> x -> x.late(loan), -1, 4);
        in(States.ALL_LOANS, 0, x -> x.late(39));
        noSuchEach(States.ALL_LOANS, loan -> x -> x.late(loan), -1, 40);
    }

    private void coins() {
        promise(32, "Returns the coins of a house, without those that it has laid down");
        inEach(NEW, 100, house -> x -> x.coins(house), 0, 1, 2, 3, 4);
        in(States.RICH, 120, x -> x.coins(0));
        in(States.RICH, 79, x -> x.coins(1));
        in(States.RICH, 80, x -> x.coins(2));
        in(States.RICH, 50, x -> x.coins(3));
        in(States.RICH, 100, x -> x.coins(4));
        State all = States.TWO_COPIES.then(x -> x.lend(0, 1, 1, 50), x -> x.lend(1, 1, 1, 50));
        in(all, 0, x -> x.coins(1));
        in(all.then(x -> x.pass(12), x -> x.giveBack(0)), 0, x -> x.coins(1));
        in(all.then(x -> x.pass(12), x -> x.giveBack(0), x -> x.giveBack(1)), 200, x -> x.coins(0));
    }

    private void coinsNoHouse() {
        promise(32, "Throws IndexOutOfBoundsException if there is no such house");
        in(States.RICH, 120, x -> x.coins(0));
        in(States.RICH, 100, x -> x.coins(4));
        noSuchEach(NEW, house -> x -> x.coins(house), -1, 5);
        noSuchEach(States.RICH, house -> x -> x.coins(house), -1, 5);
    }

    private void laidDown() {
        promise(33, "Returns the coins that a house has laid down");
        inEach(NEW, 0, house -> x -> x.laidDown(house), 0, 1, 2, 3, 4);
        in(States.RICH, 0, x -> x.laidDown(0));
        in(States.RICH, 21, x -> x.laidDown(1));
        in(States.RICH, 0, x -> x.laidDown(2));
        in(States.RICH, 50, x -> x.laidDown(3));
        State all = States.TWO_COPIES.then(x -> x.lend(0, 4, 1, 50), x -> x.lend(1, 4, 1, 50));
        in(all, 100, x -> x.laidDown(4));
        in(all.then(x -> x.pass(12), x -> x.giveBack(0)), 50, x -> x.laidDown(4));
        in(all.then(x -> x.giveBack(1), x -> x.giveBack(0)), 0, x -> x.laidDown(4));
    }

    private void laidDownNoHouse() {
        promise(33, "Throws IndexOutOfBoundsException if there is no such house");
        in(States.RICH, 21, x -> x.laidDown(1));
        in(States.RICH, 0, x -> x.laidDown(4));
        noSuchEach(NEW, house -> x -> x.laidDown(house), -1, 5);
        noSuchEach(States.RICH, house -> x -> x.laidDown(house), -1, 5);
    }
}
