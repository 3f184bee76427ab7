/**
 * All promises at once: long mixed runs, in which each answer is held against that of Plain. The numbers are drawn
 * by a written-out rule from the run's number, so each run is the same every time.
 */
public final class RunsTest {
    private static final int RUNS = 1500;
    private static final int CALLS = 512;
    private static final int CHANGES = 9;
    private static final int QUERIES = 24;
    /** How often each changing call comes, by the kind of the run: slip, copy, tellModel, pass, correct, ... */
    private static final int[][] WEIGHTS = {
        {6, 4, 1, 1, 3, 2, 2, 2, 12},
        {20, 10, 1, 0, 1, 1, 0, 0, 6},
        {6, 3, 1, 0, 16, 6, 1, 1, 6},
        {4, 3, 0, 3, 3, 1, 14, 12, 6},
        {6, 6, 3, 8, 3, 2, 8, 3, 6},
        {4, 8, 0, 1, 8, 5, 5, 5, 40},
    };
    private static final int[] STRANGE = {Integer.MIN_VALUE, -2, -1, 5, 6, 10, 24, 40, 60, Integer.MAX_VALUE};

    private static final Checks checks = new Checks();
    private static long drawn;

    private final ModelCopies copies = new ModelCopies();
    private final Plain plain = new Plain();
    private final int[] weights;
    private final boolean isErrorLadenRun;

    private RunsTest(int run) {
        drawn = 7919L * run + 17;
        weights = WEIGHTS[run % WEIGHTS.length];
        isErrorLadenRun = run % 2 == 0;
    }

    public static void main(String[] args) {
        for (int run = 0; run < RUNS; run++) {
            RunsTest test = new RunsTest(run);
            for (int call = 0; call < CALLS; call++) {
                test.callOnce("run " + run + ", call " + call + ": ");
            }
        }
        checks.end("RunsTest");
    }

    private static int draw(int bound) {
        drawn = drawn * 6364136223846793005L + 1442695040888963407L;
        return (int) ((drawn >>> 33) % bound);
    }

    /** Mostly below the bound, at times beside it or far away. */
    private static int number(int bound) {
        int kind = draw(40);
        if (kind == 0) {
            return STRANGE[draw(STRANGE.length)];
        }
        return kind == 1 || bound <= 0 ? bound : draw(bound);
    }

    private int copy() {
        return number((int) plain.copies());
    }

    /** Mostly the house where the copy is, as most calls ask for that. */
    private int houseWith(int copy) {
        return draw(12) == 0 || plain.houseOf(copy) < 0 ? number(5) : (int) plain.houseOf(copy);
    }

    private int place() {
        return isErrorLadenRun ? number(24) : draw(8) == 0 ? number(24) : draw(4);
    }

    private int reading() {
        return isErrorLadenRun || draw(8) == 0 ? number(10) : draw(3);
    }

    private interface Call {
        long answer();
    }

    private static long answerOf(Call call) {
        try {
            return call.answer();
        } catch (RuntimeException e) {
            return Checks.isThrownByTheClass(e) ? answerFor(e.getClass()) : -2000;
        }
    }

    private static long answerFor(Class<?> thrown) {
        if (thrown == IndexOutOfBoundsException.class) {
            return Plain.NO_SUCH;
        }
        if (thrown == IllegalArgumentException.class) {
            return Plain.OUT_OF_RANGE;
        }
        return thrown == IllegalStateException.class ? Plain.NOT_NOW : -2001;
    }

    private static long oneIf(boolean is) {
        return is ? 1 : 0;
    }

    private void callOnce(String where) {
        int all = 0;
        for (int weight : weights) {
            all += weight;
        }
        int left = draw(all);
        int kind = 0;
        while (left >= weights[kind]) {
            left -= weights[kind];
            kind++;
        }
        if (kind < CHANGES - 1) {
            change(where, kind);
        } else {
            ask(where, draw(QUERIES));
        }
    }

    private void change(String where, int kind) {
        int one = copy();
        int other = copy();
        int place = place();
        switch (kind) {
            case 0 -> {
                int reading = draw(8) == 0 ? -1 : reading();
                checks.due(where + "slip(" + place + ", " + reading + ")",
                        answerOf(() -> copies.slip(place, reading)), plain.slip(place, reading));
            }
            case 1 -> {
                int scribe = number(6);
                int house = houseWith(one);
                boolean isTold = draw(8) == 0;
                checks.due(where + "copy(" + one + ", " + scribe + ", " + house + ", " + isTold + ")",
                        answerOf(() -> copies.copy(one, scribe, house, isTold)),
                        plain.copy(one, scribe, house, isTold));
            }
            case 2 -> checks.due(where + "tellModel(" + one + ")",
                    answerOf(() -> copies.tellModel(one)), plain.tellModel(one));
            case 3 -> {
                int days = draw(3) == 0 ? number(202) : 1 + draw(12);
                checks.due(where + "pass(" + days + ")", answerOf(() -> copies.pass(days)), plain.pass(days));
            }
            case 4 -> {
                int house = houseWith(one);
                checks.due(where + "correct(" + house + ", " + one + ", " + other + ", " + place + ")",
                        answerOf(() -> copies.correct(house, one, other, place)),
                        plain.correct(house, one, other, place));
            }
            case 5 -> {
                int house = houseWith(one);
                checks.due(where + "workIn(" + house + ", " + one + ")",
                        answerOf(() -> copies.workIn(house, one)), plain.workIn(house, one));
            }
            case 6 -> lendOnce(where, one);
            default -> {
                int loan = number((int) plain.loans());
                checks.due(where + "giveBack(" + loan + ")",
                        answerOf(() -> copies.giveBack(loan)), plain.giveBack(loan));
            }
        }
    }

    private void lendOnce(String where, int copy) {
        int house = number(5);
        int days = draw(6) == 0 ? number(102) : 1 + draw(8);
        int pledge = number(52);
        checks.due(where + "lend(" + copy + ", " + house + ", " + days + ", " + pledge + ")",
                answerOf(() -> copies.lend(copy, house, days, pledge)), plain.lend(copy, house, days, pledge));
    }

    private void ask(String where, int kind) {
        int copy = copy();
        int other = copy();
        int house = number(5);
        int scribe = number(6);
        int place = place();
        int reading = reading();
        int letter = number((int) plain.letters());
        int loan = number((int) plain.loans());
        String on = where + "query " + kind + " of copy " + copy + ", other " + other + ", house " + house + ", scribe "
                + scribe + ", place " + place + ", reading " + reading + ", letter " + letter + ", loan " + loan;
        switch (kind) {
            case 0 -> checks.due(on, answerOf(copies::day), plain.day());
            case 1 -> checks.due(on, answerOf(copies::copies), plain.copies());
            case 2 -> checks.due(on, answerOf(() -> copies.reading(copy, place)), plain.reading(copy, place));
            case 3 -> checks.due(on, answerOf(() -> copies.errors(copy)), plain.errors(copy));
            case 4 -> checks.due(on, answerOf(() -> copies.shared(copy, other)), plain.shared(copy, other));
            case 5 -> checks.due(on, answerOf(() -> copies.houseOf(copy)), plain.houseOf(copy));
            case 6 -> checks.due(on, answerOf(() -> copies.ownerOf(copy)), plain.ownerOf(copy));
            case 7 -> checks.due(on, answerOf(() -> copies.toldModel(copy)), plain.toldModel(copy));
            case 8 -> checks.due(on, answerOf(() -> copies.slips(scribe)), plain.slips(scribe));
            case 9 -> checks.due(on, answerOf(() -> copies.family(copy)), plain.family(copy));
            case 10 -> checks.due(on, answerOf(() -> copies.familyByErrors(copy)), plain.family(copy));
            case 11 -> checks.due(on, answerOf(copies::families), plain.families());
            case 12 -> checks.due(on, answerOf(() -> copies.guess(copy)), plain.guess(copy));
            case 13 -> checks.due(on, answerOf(copies::rightGuesses), plain.rightGuesses());
            case 14 -> checks.due(on, answerOf(() -> copies.spread(place, reading)), plain.spread(place, reading));
            case 15 -> checks.due(on, answerOf(() -> copies.sources(place, reading)), plain.sources(place, reading));
            case 16 -> checks.due(on, answerOf(copies::letters), plain.letters());
            case 17 -> checks.due(on, answerOf(() -> oneIf(copies.hasLetter(house, letter))),
                    plain.hasLetter(house, letter));
            case 18 -> checks.due(on, answerOf(() -> copies.letter(letter)), plain.letter(letter));
            case 19 -> checks.due(on, answerOf(copies::loans), plain.loans());
            case 20 -> checks.due(on, answerOf(() -> oneIf(copies.isBack(loan))), plain.isBack(loan));
            case 21 -> checks.due(on, answerOf(() -> copies.late(loan)), plain.late(loan));
            case 22 -> checks.due(on, answerOf(() -> copies.coins(house)), plain.coins(house));
            default -> checks.due(on, answerOf(() -> copies.laidDown(house)), plain.laidDown(house));
        }
    }
}
