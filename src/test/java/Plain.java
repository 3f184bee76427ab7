import java.util.ArrayList;
import java.util.List;
import java.util.TreeSet;

/**
 * The document once more, as plainly as can be and by other ways than the class takes: it remembers what was done,
 * and finds each answer anew. A call that throws answers one of the three numbers below instead.
 */
final class Plain {
    static final long NO_SUCH = -1001;
    static final long OUT_OF_RANGE = -1002;
    static final long NOT_NOW = -1003;

    private final List<int[]> readings = new ArrayList<>();
    private final List<Integer> models = new ArrayList<>();
    private final List<Boolean> told = new ArrayList<>();
    private final List<Integer> owners = new ArrayList<>();
    private final List<int[]> letters = new ArrayList<>();
    private final List<TreeSet<Integer>> lettersOfHouses = new ArrayList<>();
    /** Each loan: copy, house, day of lending, days, pledge, day of giving back or -1. */
    private final List<int[]> loans = new ArrayList<>();
    private final int[] slips = new int[6];
    private final Integer[] draft = new Integer[24];
    private int day = 0;

    Plain() {
        readings.add(new int[24]);
        models.add(-1);
        told.add(false);
        owners.add(0);
        for (int house = 0; house < 5; house++) {
            lettersOfHouses.add(new TreeSet<>());
        }
    }

    private boolean noCopy(int copy) {
        return copy < 0 || copy >= readings.size();
    }

    private static boolean notBelow(int number, int bound) {
        return number < 0 || number >= bound;
    }

    private int inDraft() {
        int count = 0;
        for (Integer reading : draft) {
            count += reading == null ? 0 : 1;
        }
        return count;
    }

    private int whereIs(int copy) {
        for (int[] loan : loans) {
            if (loan[0] == copy && loan[5] < 0) {
                return loan[1];
            }
        }
        return owners.get(copy);
    }

    long slip(int place, int reading) {
        if (notBelow(place, 24)) {
            return NO_SUCH;
        }
        if (reading < -1 || reading > 9) {
            return OUT_OF_RANGE;
        }
        int others = inDraft() - (draft[place] == null ? 0 : 1);
        if (others == 6 && reading != -1) {
            return NOT_NOW;
        }
        draft[place] = reading == -1 ? null : (Integer) reading;
        return inDraft();
    }

    long copy(int model, int scribe, int house, boolean isTold) {
        if (noCopy(model) || notBelow(scribe, 6) || notBelow(house, 5)) {
            return NO_SUCH;
        }
        if (whereIs(model) != house || readings.size() == 40) {
            return NOT_NOW;
        }
        int[] made = readings.get(model).clone();
        for (int place = 0; place < 24; place++) {
            if (draft[place] != null) {
                made[place] = draft[place];
            }
            slips[scribe] += made[place] != readings.get(model)[place] ? 1 : 0;
            draft[place] = null;
        }
        readings.add(made);
        models.add(model);
        told.add(isTold);
        owners.add(house);
        return readings.size() - 1;
    }

    long tellModel(int copy) {
        if (noCopy(copy)) {
            return NO_SUCH;
        }
        if (copy == 0 || told.get(copy)) {
            return NOT_NOW;
        }
        told.set(copy, true);
        return family(copy);
    }

    long pass(int days) {
        if (days < 1 || days > 200) {
            return OUT_OF_RANGE;
        }
        if (day + days > 2000) {
            return NOT_NOW;
        }
        day += days;
        return day;
    }

    long correct(int house, int copy, int other, int place) {
        if (notBelow(house, 5) || noCopy(copy) || noCopy(other) || notBelow(place, 24)) {
            return NO_SUCH;
        }
        int was = readings.get(copy)[place];
        int now = readings.get(other)[place];
        if (whereIs(copy) != house || whereIs(other) != house || was == now || letters.size() == 60) {
            return NOT_NOW;
        }
        letters.add(new int[] {place, was, now});
        lettersOfHouses.get(house).add(letters.size() - 1);
        readings.get(copy)[place] = now;
        return letters.size() - 1;
    }

    long workIn(int house, int copy) {
        if (notBelow(house, 5) || noCopy(copy)) {
            return NO_SUCH;
        }
        if (whereIs(copy) != house) {
            return NOT_NOW;
        }
        int changes = 0;
        for (int number : lettersOfHouses.get(house)) {
            int[] letter = letters.get(number);
            if (readings.get(copy)[letter[0]] == letter[1]) {
                readings.get(copy)[letter[0]] = letter[2];
                changes++;
            }
        }
        return changes;
    }

    long lend(int copy, int house, int days, int pledge) {
        if (noCopy(copy) || notBelow(house, 5)) {
            return NO_SUCH;
        }
        if (days < 1 || days > 100 || pledge < 0 || pledge > 50) {
            return OUT_OF_RANGE;
        }
        int owner = owners.get(copy);
        if (owner == house || whereIs(copy) != owner || coins(house) < pledge || loans.size() == 40) {
            return NOT_NOW;
        }
        loans.add(new int[] {copy, house, day, days, pledge, -1});
        lettersOfHouses.get(house).addAll(lettersOfHouses.get(owner));
        return loans.size() - 1;
    }

    long giveBack(int loan) {
        if (notBelow(loan, loans.size())) {
            return NO_SUCH;
        }
        int[] given = loans.get(loan);
        if (given[5] >= 0) {
            return NOT_NOW;
        }
        given[5] = day;
        lettersOfHouses.get(owners.get(given[0])).addAll(lettersOfHouses.get(given[1]));
        return lostOf(given);
    }

    private int lateOf(int[] loan) {
        int until = loan[5] < 0 ? day : loan[5];
        int late = until - loan[2] - loan[3];
        return late > 0 ? late : 0;
    }

    private int lostOf(int[] loan) {
        int late = lateOf(loan);
        int half = loan[4] / 2 + loan[4] % 2;
        return late > 10 ? loan[4] : late >= 1 ? half : 0;
    }

    long day() {
        return day;
    }

    long copies() {
        return readings.size();
    }

    long reading(int copy, int place) {
        return noCopy(copy) || notBelow(place, 24) ? NO_SUCH : readings.get(copy)[place];
    }

    long errors(int copy) {
        return noCopy(copy) ? NO_SUCH : errorsOf(copy).size();
    }

    /** An error as one number: 10 times its place, and its reading. */
    private TreeSet<Integer> errorsOf(int copy) {
        TreeSet<Integer> errors = new TreeSet<>();
        for (int place = 0; place < 24; place++) {
            if (readings.get(copy)[place] != 0) {
                errors.add(10 * place + readings.get(copy)[place]);
            }
        }
        return errors;
    }

    private TreeSet<Integer> sharedOf(int copy, int other) {
        TreeSet<Integer> both = errorsOf(copy);
        both.retainAll(errorsOf(other));
        return both;
    }

    long shared(int copy, int other) {
        return noCopy(copy) || noCopy(other) ? NO_SUCH : sharedOf(copy, other).size();
    }

    long houseOf(int copy) {
        return noCopy(copy) ? NO_SUCH : whereIs(copy);
    }

    long ownerOf(int copy) {
        return noCopy(copy) ? NO_SUCH : owners.get(copy);
    }

    long toldModel(int copy) {
        if (noCopy(copy)) {
            return NO_SUCH;
        }
        return told.get(copy) ? models.get(copy) : -1;
    }

    long slips(int scribe) {
        return notBelow(scribe, 6) ? NO_SUCH : slips[scribe];
    }

    private boolean areKin(int one, int other) {
        return !sharedOf(one, other).isEmpty()
                || told.get(one) && models.get(one) == other
                || told.get(other) && models.get(other) == one;
    }

    /** All families by letting the lowest numbers spread among kin until nothing changes. */
    private int[] lowestOfKin() {
        int[] lowest = new int[readings.size()];
        boolean[][] kin = new boolean[lowest.length][lowest.length];
        for (int one = 0; one < lowest.length; one++) {
            lowest[one] = one;
            for (int other = 0; other < one; other++) {
                kin[one][other] = areKin(one, other);
            }
        }
        boolean isChanged = true;
        while (isChanged) {
            isChanged = false;
            for (int one = 0; one < lowest.length; one++) {
                for (int other = 0; other < one; other++) {
                    if (kin[one][other] && lowest[one] != lowest[other]) {
                        lowest[one] = Math.min(lowest[one], lowest[other]);
                        lowest[other] = lowest[one];
                        isChanged = true;
                    }
                }
            }
        }
        return lowest;
    }

    long family(int copy) {
        return noCopy(copy) ? NO_SUCH : lowestOfKin()[copy];
    }

    long families() {
        TreeSet<Integer> numbers = new TreeSet<>();
        for (int family : lowestOfKin()) {
            numbers.add(family);
        }
        return numbers.size();
    }

    long guess(int copy) {
        if (noCopy(copy)) {
            return NO_SUCH;
        }
        if (told.get(copy)) {
            return models.get(copy);
        }
        int best = -1;
        int greatest = Integer.MIN_VALUE;
        for (int lower = copy - 1; lower >= 0; lower--) {
            TreeSet<Integer> foreign = errorsOf(lower);
            foreign.removeAll(errorsOf(copy));
            int worth = 2 * sharedOf(copy, lower).size() - foreign.size();
            if (worth >= greatest) {
                greatest = worth;
                best = lower;
            }
        }
        return best;
    }

    long rightGuesses() {
        int count = 0;
        for (int copy = 1; copy < readings.size(); copy++) {
            count += guess(copy) == models.get(copy) ? 1 : 0;
        }
        return count;
    }

    private boolean hasError(long copy, int place, int reading) {
        return copy >= 0 && errorsOf((int) copy).contains(10 * place + reading);
    }

    long spread(int place, int reading) {
        return countOf(place, reading, false);
    }

    long sources(int place, int reading) {
        return countOf(place, reading, true);
    }

    private long countOf(int place, int reading, boolean isOfSources) {
        if (notBelow(place, 24)) {
            return NO_SUCH;
        }
        if (reading < 1 || reading > 9) {
            return OUT_OF_RANGE;
        }
        int count = 0;
        for (int copy = 0; copy < readings.size(); copy++) {
            if (hasError(copy, place, reading) && !(isOfSources && hasError(guess(copy), place, reading))) {
                count++;
            }
        }
        return count;
    }

    long letters() {
        return letters.size();
    }

    long hasLetter(int house, int letter) {
        if (notBelow(house, 5) || notBelow(letter, letters.size())) {
            return NO_SUCH;
        }
        return lettersOfHouses.get(house).contains(letter) ? 1 : 0;
    }

    long letter(int letter) {
        if (notBelow(letter, letters.size())) {
            return NO_SUCH;
        }
        int[] said = letters.get(letter);
        return 100 * said[0] + 10 * said[1] + said[2];
    }

    long loans() {
        return loans.size();
    }

    long isBack(int loan) {
        return notBelow(loan, loans.size()) ? NO_SUCH : loans.get(loan)[5] >= 0 ? 1 : 0;
    }

    long late(int loan) {
        return notBelow(loan, loans.size()) ? NO_SUCH : lateOf(loans.get(loan));
    }

    /** A house's coins from all loans: what it lost, gained and has laid down. */
    long coins(int house) {
        if (notBelow(house, 5)) {
            return NO_SUCH;
        }
        long coins = 100 - laidDown(house);
        for (int[] loan : loans) {
            int lost = loan[5] < 0 ? 0 : lostOf(loan);
            coins -= loan[1] == house ? lost : 0;
            coins += owners.get(loan[0]) == house ? lost : 0;
        }
        return coins;
    }

    long laidDown(int house) {
        if (notBelow(house, 5)) {
            return NO_SUCH;
        }
        long laid = 0;
        for (int[] loan : loans) {
            laid += loan[1] == house && loan[5] < 0 ? loan[4] : 0;
        }
        return laid;
    }
}
