/** Promises 8, 9 and 29 to 33: loans, what is lost of pledges, and loans as they are. */
public final class LoansTest {
    private static final Checks checks = new Checks();

    public static void main(String[] args) {
        lendLaysDownThePledge();
        lendAtTheEdges();
        lendThrows();
        lendKeepsToForty();
        givenBackInTimeNothingIsLost();
        givenBackLateHalfIsLost();
        givenBackLaterAllIsLost();
        lentFromAHouseThatGains();
        giveBackThrows();
        lateStaysAsItWas();
        unknownLoansAndHouses();
        checks.end("LoansTest");
    }

    private static void lendLaysDownThePledge() {
        ModelCopies x = new ModelCopies();
        checks.due("lend(0, 2, 10, 30)", x.lend(0, 2, 10, 30), 0);
        checks.due("coins(2)", x.coins(2), 70);
        checks.due("laidDown(2)", x.laidDown(2), 30);
        checks.due("coins(0)", x.coins(0), 100);
        checks.due("laidDown(0)", x.laidDown(0), 0);
        checks.due("houseOf(0)", x.houseOf(0), 2);
        checks.due("loans", x.loans(), 1);
        checks.due("isBack(0)", x.isBack(0), false);
        x.copy(0, 0, 2, false);
        checks.due("lend(1, 0, 10, 50)", x.lend(1, 0, 10, 50), 1);
        checks.due("coins(0)", x.coins(0), 50);
        checks.due("laidDown(0)", x.laidDown(0), 50);
    }

    private static void lendAtTheEdges() {
        ModelCopies x = new ModelCopies();
        checks.due("lend(0, 4, 1, 0)", x.lend(0, 4, 1, 0), 0);
        x.giveBack(0);
        checks.due("lend(0, 4, 100, 50)", x.lend(0, 4, 100, 50), 1);
        x.copy(0, 0, 4, false);
        checks.due("coins(4)", x.coins(4), 50);
        x.giveBack(1);
        x.copy(0, 0, 0, false);
        x.copy(0, 0, 0, false);
        x.lend(0, 4, 100, 50);
        x.lend(2, 4, 100, 50);
        checks.due("coins(4), all laid down", x.coins(4), 0);
        checks.due("laidDown(4)", x.laidDown(4), 100);
        checks.notNow("lend(3, 4, 1, 1)", () -> x.lend(3, 4, 1, 1));
        checks.due("houseOf(3)", x.houseOf(3), 0);
        checks.due("lend(3, 4, 1, 0)", x.lend(3, 4, 1, 0), 4);
    }

    private static void lendThrows() {
        ModelCopies x = new ModelCopies();
        x.copy(0, 0, 0, false);
        for (int no : new int[] {Integer.MIN_VALUE, -1, 5, Integer.MAX_VALUE}) {
            checks.noPlaceOrThing("lend(no, 1, 1, 0)", () -> x.lend(no, 1, 1, 0));
            checks.noPlaceOrThing("lend(0, no, 1, 0)", () -> x.lend(0, no, 1, 0));
            checks.noPlaceOrThing("lend(0, no, 0, 0): the house is named first", () -> x.lend(0, no, 0, 0));
        }
        checks.noPlaceOrThing("lend(2, 1, 1, 0)", () -> x.lend(2, 1, 1, 0));
        for (int no : new int[] {Integer.MIN_VALUE, -1, 0, 101, Integer.MAX_VALUE}) {
            checks.outOfRange("lend(0, 1, no, 0)", () -> x.lend(0, 1, no, 0));
        }
        for (int no : new int[] {Integer.MIN_VALUE, -1, 51, Integer.MAX_VALUE}) {
            checks.outOfRange("lend(0, 1, 1, no)", () -> x.lend(0, 1, 1, no));
        }
        checks.notNow("lend(0, 0, 1, 0)", () -> x.lend(0, 0, 1, 0));
        checks.outOfRange("lend(0, 0, 1, 51): the range is named first", () -> x.lend(0, 0, 1, 51));
        checks.due("loans", x.loans(), 0);
        x.lend(0, 1, 1, 10);
        checks.notNow("lend(0, 1, 1, 0) again", () -> x.lend(0, 1, 1, 0));
        checks.notNow("lend(0, 2, 1, 0) on", () -> x.lend(0, 2, 1, 0));
        checks.notNow("lend(0, 0, 1, 0) to its own", () -> x.lend(0, 0, 1, 0));
        checks.due("loans", x.loans(), 1);
        checks.due("coins(1)", x.coins(1), 90);
        checks.due("coins(2)", x.coins(2), 100);
        checks.due("houseOf(0)", x.houseOf(0), 1);
    }

    private static void lendKeepsToForty() {
        ModelCopies x = new ModelCopies();
        for (int loan = 0; loan < 40; loan++) {
            checks.due("lend", x.lend(0, 1, 1, 1), loan);
            x.giveBack(loan);
        }
        checks.notNow("lend(0, 1, 1, 1)", () -> x.lend(0, 1, 1, 1));
        checks.outOfRange("lend(0, 1, 0, 1)", () -> x.lend(0, 1, 0, 1));
        checks.due("loans", x.loans(), 40);
        checks.due("houseOf(0)", x.houseOf(0), 0);
        checks.due("coins(1)", x.coins(1), 100);
    }

    private static void givenBackInTimeNothingIsLost() {
        ModelCopies x = new ModelCopies();
        x.pass(7);
        x.lend(0, 1, 5, 33);
        x.pass(5);
        checks.due("late(0) on the last day", x.late(0), 0);
        checks.due("giveBack(0)", x.giveBack(0), 0);
        checks.due("coins(1)", x.coins(1), 100);
        checks.due("laidDown(1)", x.laidDown(1), 0);
        checks.due("coins(0)", x.coins(0), 100);
        checks.due("houseOf(0)", x.houseOf(0), 0);
        checks.due("isBack(0)", x.isBack(0), true);
        checks.due("late(0)", x.late(0), 0);
    }

    private static void givenBackLateHalfIsLost() {
        dueLoss(1, 33, 17);
        dueLoss(1, 32, 16);
        dueLoss(10, 33, 17);
        dueLoss(10, 1, 1);
        dueLoss(10, 50, 25);
        dueLoss(10, 0, 0);
    }

    private static void givenBackLaterAllIsLost() {
        dueLoss(11, 33, 33);
        dueLoss(11, 1, 1);
        dueLoss(11, 0, 0);
        dueLoss(150, 50, 50);
    }

    private static void dueLoss(int daysLate, int pledge, int lost) {
        ModelCopies x = new ModelCopies();
        x.pass(3);
        x.lend(0, 3, 20, pledge);
        x.pass(20 + daysLate);
        checks.due("late(0) by " + daysLate, x.late(0), daysLate);
        checks.due("giveBack(0) late by " + daysLate + " of " + pledge, x.giveBack(0), lost);
        checks.due("coins(3)", x.coins(3), 100 - lost);
        checks.due("laidDown(3)", x.laidDown(3), 0);
        checks.due("coins(0)", x.coins(0), 100 + lost);
        checks.due("laidDown(0)", x.laidDown(0), 0);
    }

    private static void lentFromAHouseThatGains() {
        ModelCopies x = new ModelCopies();
        x.lend(0, 1, 1, 50);
        x.copy(0, 0, 1, false);
        x.lend(1, 2, 1, 40);
        x.pass(50);
        checks.due("giveBack(1) to the house 1", x.giveBack(1), 40);
        checks.due("coins(1)", x.coins(1), 90);
        checks.due("laidDown(1)", x.laidDown(1), 50);
        checks.due("coins(2)", x.coins(2), 60);
        checks.due("coins(0)", x.coins(0), 100);
        checks.due("houseOf(1)", x.houseOf(1), 1);
        checks.due("houseOf(0)", x.houseOf(0), 1);
    }

    private static void giveBackThrows() {
        ModelCopies x = new ModelCopies();
        checks.noPlaceOrThing("giveBack(0)", () -> x.giveBack(0));
        x.lend(0, 1, 1, 20);
        x.pass(5);
        x.giveBack(0);
        x.lend(0, 2, 1, 20);
        x.pass(50);
        checks.notNow("giveBack(0) again", () -> x.giveBack(0));
        for (int no : new int[] {Integer.MIN_VALUE, -1, 2, Integer.MAX_VALUE}) {
            checks.noPlaceOrThing("giveBack(no)", () -> x.giveBack(no));
        }
        checks.due("late(0)", x.late(0), 4);
        checks.due("coins(1)", x.coins(1), 90);
        checks.due("coins(0)", x.coins(0), 110);
        checks.due("houseOf(0)", x.houseOf(0), 2);
    }

    private static void lateStaysAsItWas() {
        ModelCopies x = new ModelCopies();
        x.lend(0, 1, 3, 0);
        checks.due("late(0) at once", x.late(0), 0);
        x.pass(10);
        checks.due("late(0)", x.late(0), 7);
        x.pass(1);
        checks.due("late(0) a day behind", x.late(0), 8);
        x.giveBack(0);
        x.pass(100);
        checks.due("late(0) when back", x.late(0), 8);
        x.lend(0, 1, 3, 0);
        x.giveBack(1);
        x.pass(100);
        checks.due("late(1): back in time", x.late(1), 0);
    }

    private static void unknownLoansAndHouses() {
        ModelCopies x = new ModelCopies();
        x.lend(0, 1, 3, 0);
        for (int no : new int[] {Integer.MIN_VALUE, -1, 1, 40, Integer.MAX_VALUE}) {
            checks.noPlaceOrThing("isBack(no)", () -> x.isBack(no));
            checks.noPlaceOrThing("late(no)", () -> x.late(no));
        }
        for (int no : new int[] {Integer.MIN_VALUE, -1, 5, Integer.MAX_VALUE}) {
            checks.noPlaceOrThing("coins(no)", () -> x.coins(no));
            checks.noPlaceOrThing("laidDown(no)", () -> x.laidDown(no));
        }
    }
}
