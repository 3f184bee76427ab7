import java.util.ArrayList;
import java.util.Arrays;

/** Copies of one work that scribes of several houses make from models; ../shared/DOC.md says what each call does. */
public final class ModelCopies {
    private static final int PLACES = 24;
    private static final int READINGS = 10;
    private static final int RIGHT = 0;
    private static final int NO_READING = -1;
    private static final int NO_COPY = -1;
    private static final int MOST_IN_DRAFT = 6;
    private static final int HOUSES = 5;
    private static final int SCRIBES = 6;
    private static final int MOST_COPIES = 40;
    private static final int MOST_LETTERS = 60;
    private static final int MOST_LOANS = 40;
    private static final int LAST_DAY = 2000;
    private static final int MOST_DAYS_TO_PASS = 200;
    private static final int MOST_DAYS_OF_LOAN = 100;
    private static final int HIGHEST_PLEDGE = 50;
    private static final int COINS_AT_FIRST = 100;
    private static final int DAYS_LATE_FOR_HALF = 10;

    private final ArrayList<House> houses = new ArrayList<>();
    private final ArrayList<Copy> copies = new ArrayList<>();
    private final ArrayList<Letter> letters = new ArrayList<>();
    private final ArrayList<Loan> loans = new ArrayList<>();
    private final int[] slipsByScribe = new int[SCRIBES];
    private final Draft draft = new Draft();
    private int today = 0;

    public ModelCopies() {
        House first = new House(0);
        houses.add(first);
        for (int house = 1; house < HOUSES; house++) {
            houses.add(new House(house));
        }
        copies.add(new Copy(0, null, first));
    }

    // ---- copies

    public int slip(int place, int reading)
            throws IndexOutOfBoundsException, IllegalArgumentException, IllegalStateException {
        requirePlace(place);
        if (reading < NO_READING || reading >= READINGS) {
            throw new IllegalArgumentException("there is no such reading");
        }
        if (reading != NO_READING && !draft.hasRoomAt(place)) {
            throw new IllegalStateException("the draft has readings for as many places as it can");
        }
        draft.put(place, reading);
        return draft.filled;
    }

    public int copy(int model, int scribe, int house, boolean isTold)
            throws IndexOutOfBoundsException, IllegalStateException {
        Copy source = findCopy(model);
        requireScribe(scribe);
        House maker = findHouse(house);
        if (source.house != maker) {
            throw new IllegalStateException("the model is not in the house");
        }
        if (copies.size() >= MOST_COPIES) {
            throw new IllegalStateException("there are as many copies as there can be");
        }
        Copy made = new Copy(copies.size(), source, maker);
        made.isTold = isTold;
        slipsByScribe[scribe] += draft.writeInto(made);
        draft.clear();
        copies.add(made);
        enterFamily(made);
        return made.number;
    }

    public int tellModel(int copy) throws IndexOutOfBoundsException, IllegalStateException {
        Copy told = findCopy(copy);
        if (told.model == null || told.isTold) {
            throw new IllegalStateException("the copy has no model, or its model is told");
        }
        told.isTold = true;
        joinFamilies(told.family, told.model.family);
        return told.family;
    }

    public int pass(int days) throws IllegalArgumentException, IllegalStateException {
        if (days < 1 || days > MOST_DAYS_TO_PASS) {
            throw new IllegalArgumentException("so many days cannot go by at once");
        }
        if (today + days > LAST_DAY) {
            throw new IllegalStateException("the last day would be passed");
        }
        today += days;
        return today;
    }

    // ---- letters

    public int correct(int house, int copy, int other, int place)
            throws IndexOutOfBoundsException, IllegalStateException {
        House corrector = findHouse(house);
        Copy corrected = findCopy(copy);
        Copy example = findCopy(other);
        requirePlace(place);
        if (corrected.house != corrector || example.house != corrector) {
            throw new IllegalStateException("not both copies are in the house");
        }
        int was = corrected.readings[place];
        int now = example.readings[place];
        if (was == now) {
            throw new IllegalStateException("both copies have the same reading there");
        }
        int number = letters.size();
        if (number >= MOST_LETTERS) {
            throw new IllegalStateException("as many letters were written as can be");
        }
        letters.add(new Letter(place, was, now));
        corrector.take(number);
        corrected.readings[place] = now;
        findFamiliesAnew();
        return number;
    }

    public int workIn(int house, int copy) throws IndexOutOfBoundsException, IllegalStateException {
        House corrector = findHouse(house);
        Copy corrected = findCopy(copy);
        if (corrected.house != corrector) {
            throw new IllegalStateException("the copy is not in the house");
        }
        int changes = 0;
        for (int number = 0; number < letters.size(); number++) {
            if (corrector.holds(number) && letters.get(number).changes(corrected)) {
                changes++;
            }
        }
        if (changes > 0) {
            findFamiliesAnew();
        }
        return changes;
    }

    // ---- loans

    public int lend(int copy, int house, int days, int pledge)
            throws IndexOutOfBoundsException, IllegalArgumentException, IllegalStateException {
        Copy lent = findCopy(copy);
        House borrower = findHouse(house);
        if (days < 1 || days > MOST_DAYS_OF_LOAN) {
            throw new IllegalArgumentException("a copy is not lent for so many days");
        }
        if (pledge < 0 || pledge > HIGHEST_PLEDGE) {
            throw new IllegalArgumentException("a pledge is not so high");
        }
        if (lent.owner == borrower || lent.house != lent.owner) {
            throw new IllegalStateException("the copy belongs to the house, or is lent");
        }
        if (borrower.coins < pledge) {
            throw new IllegalStateException("the house does not have so many coins");
        }
        if (loans.size() >= MOST_LOANS) {
            throw new IllegalStateException("as many loans were made as can be");
        }
        int number = loans.size();
        loans.add(new Loan(lent, borrower, today + days, pledge));
        borrower.coins -= pledge;
        borrower.laidDown += pledge;
        lent.house = borrower;
        borrower.takeLettersOf(lent.owner);
        return number;
    }

    public int giveBack(int loan) throws IndexOutOfBoundsException, IllegalStateException {
        Loan ended = findLoan(loan);
        if (ended.isBack) {
            throw new IllegalStateException("the loan was given back");
        }
        House borrower = ended.borrower;
        House lender = ended.copy.owner;
        int lost = ended.lostOn(today);
        ended.daysLateAtEnd = ended.daysLateOn(today);
        ended.isBack = true;
        borrower.laidDown -= ended.pledge;
        borrower.coins += ended.pledge - lost;
        lender.coins += lost;
        ended.copy.house = lender;
        lender.takeLettersOf(borrower);
        return lost;
    }

    // ---- copies as they are; nothing from here on changes anything

    public int day() {
        return today;
    }

    public int copies() {
        return copies.size();
    }

    public int reading(int copy, int place) throws IndexOutOfBoundsException {
        Copy asked = findCopy(copy);
        requirePlace(place);
        return asked.readings[place];
    }

    public int errors(int copy) throws IndexOutOfBoundsException {
        return findCopy(copy).countErrors();
    }

    public int shared(int copy, int other) throws IndexOutOfBoundsException {
        Copy one = findCopy(copy);
        return one.countSharedWith(findCopy(other));
    }

    public int houseOf(int copy) throws IndexOutOfBoundsException {
        return findCopy(copy).house.number;
    }

    public int ownerOf(int copy) throws IndexOutOfBoundsException {
        return findCopy(copy).owner.number;
    }

    public int toldModel(int copy) throws IndexOutOfBoundsException {
        return numberOf(findCopy(copy).modelIfTold());
    }

    public int slips(int scribe) throws IndexOutOfBoundsException {
        requireScribe(scribe);
        return slipsByScribe[scribe];
    }

    // ---- families

    public int family(int copy) throws IndexOutOfBoundsException {
        return findCopy(copy).family;
    }

    public int familyByErrors(int copy) throws IndexOutOfBoundsException {
        long found = setOf(findCopy(copy));
        long gone = 0;
        for (int steps = 0; steps < copies.size(); steps++) {
            int next = lowestIn(found & ~gone);
            if (next < 0 || next >= copies.size()) {
                break;
            }
            Copy reached = copies.get(next);
            gone |= setOf(reached);
            found |= kinByErrors(reached) | kinByModels(reached);
        }
        return lowestIn(found);
    }

    public int families() {
        int count = 0;
        for (int c = 0; c < copies.size(); c++) {
            if (copies.get(c).family == c) {
                count++;
            }
        }
        return count;
    }

    public int guess(int copy) throws IndexOutOfBoundsException {
        return numberOf(guessFor(findCopy(copy)));
    }

    public int rightGuesses() {
        int count = 0;
        for (int c = 0; c < copies.size(); c++) {
            Copy guessed = guessFor(copies.get(c));
            if (guessed != null && guessed == copies.get(c).model) {
                count++;
            }
        }
        return count;
    }

    public int spread(int place, int reading) throws IndexOutOfBoundsException, IllegalArgumentException {
        requireError(place, reading);
        return Long.bitCount(copiesThatRead(place, reading));
    }

    public int sources(int place, int reading) throws IndexOutOfBoundsException, IllegalArgumentException {
        requireError(place, reading);
        int count = 0;
        for (int c = 0; c < copies.size(); c++) {
            Copy bearer = copies.get(c);
            if (bearer.readings[place] == reading) {
                Copy guessed = guessFor(bearer);
                if (guessed == null || guessed.readings[place] != reading) {
                    count++;
                }
            }
        }
        return count;
    }

    // ---- letters and loans as they are

    public int letters() {
        return letters.size();
    }

    public boolean hasLetter(int house, int letter) throws IndexOutOfBoundsException {
        House asked = findHouse(house);
        requireLetter(letter);
        return asked.holds(letter);
    }

    public int letter(int letter) throws IndexOutOfBoundsException {
        requireLetter(letter);
        Letter asked = letters.get(letter);
        return 100 * asked.place + 10 * asked.was + asked.now;
    }

    public int loans() {
        return loans.size();
    }

    public boolean isBack(int loan) throws IndexOutOfBoundsException {
        return findLoan(loan).isBack;
    }

    public int late(int loan) throws IndexOutOfBoundsException {
        Loan asked = findLoan(loan);
        return asked.isBack ? asked.daysLateAtEnd : asked.daysLateOn(today);
    }

    public int coins(int house) throws IndexOutOfBoundsException {
        return findHouse(house).coins;
    }

    public int laidDown(int house) throws IndexOutOfBoundsException {
        return findHouse(house).laidDown;
    }

    // ---- behind the interface: what calls ask for first

    private Copy findCopy(int number) {
        if (number < 0 || number >= copies.size()) {
            throw new IndexOutOfBoundsException("there is no such copy");
        }
        return copies.get(number);
    }

    private House findHouse(int number) {
        if (number < 0 || number >= houses.size()) {
            throw new IndexOutOfBoundsException("there is no such house");
        }
        return houses.get(number);
    }

    private Loan findLoan(int number) {
        if (number < 0 || number >= loans.size()) {
            throw new IndexOutOfBoundsException("there is no such loan");
        }
        return loans.get(number);
    }

    private void requireLetter(int letter) {
        if (letter < 0 || letter >= letters.size()) {
            throw new IndexOutOfBoundsException("there is no such letter");
        }
    }

    private static void requirePlace(int place) {
        if (place < 0 || place >= PLACES) {
            throw new IndexOutOfBoundsException("there is no such place");
        }
    }

    private static void requireScribe(int scribe) {
        if (scribe < 0 || scribe >= SCRIBES) {
            throw new IndexOutOfBoundsException("there is no such scribe");
        }
    }

    private static void requireError(int place, int reading) {
        requirePlace(place);
        if (reading <= RIGHT || reading >= READINGS) {
            throw new IllegalArgumentException("there is no such error");
        }
    }

    private static int numberOf(Copy copy) {
        return copy == null ? NO_COPY : copy.number;
    }

    // ---- behind the interface: families as they are kept

    /** Joins a copy, alone as yet, to its kin among the copies before it; those have their families by then. */
    private void enterFamily(Copy copy) {
        copy.family = copy.number;
        for (int c = 0; c < copy.number && c < copies.size(); c++) {
            Copy before = copies.get(c);
            if (before.family != copy.family && copy.isKinOf(before)) {
                joinFamilies(before.family, copy.family);
            }
        }
    }

    private void joinFamilies(int one, int other) {
        int lower = Math.min(one, other);
        int higher = Math.max(one, other);
        for (int c = 0; c < copies.size(); c++) {
            Copy member = copies.get(c);
            if (member.family == higher) {
                member.family = lower;
            }
        }
    }

    /** A correction may part a family, and what falls apart cannot be seen from the numbers that are kept. */
    private void findFamiliesAnew() {
        for (int c = 0; c < copies.size(); c++) {
            enterFamily(copies.get(c));
        }
    }

    // ---- behind the interface: families from all errors at once; a set of copies is a long, as it has bits enough

    private static long setOf(Copy copy) {
        return 1L << copy.number;
    }

    private int lowestIn(long set) {
        for (int c = 0; c < copies.size(); c++) {
            if ((set & setOf(copies.get(c))) != 0) {
                return c;
            }
        }
        return NO_COPY;
    }

    private long copiesThatRead(int place, int reading) {
        if (place < 0 || place >= PLACES) {
            return 0;
        }
        long set = 0;
        for (int c = 0; c < copies.size(); c++) {
            Copy copy = copies.get(c);
            if (copy.readings[place] == reading) {
                set |= setOf(copy);
            }
        }
        return set;
    }

    private long kinByErrors(Copy copy) {
        long kin = 0;
        for (int place = 0; place < PLACES; place++) {
            int reading = copy.readings[place];
            if (reading != RIGHT) {
                kin |= copiesThatRead(place, reading);
            }
        }
        return kin;
    }

    private long kinByModels(Copy copy) {
        Copy told = copy.modelIfTold();
        long kin = told == null ? 0 : setOf(told);
        for (int c = 0; c < copies.size(); c++) {
            Copy other = copies.get(c);
            if (other.modelIfTold() == copy) {
                kin |= setOf(other);
            }
        }
        return kin;
    }

    // ---- behind the interface: guesses

    /** The copy that is guessed as the model; null for the copy 0, which has none before it. */
    private Copy guessFor(Copy copy) {
        Copy told = copy.modelIfTold();
        if (told != null) {
            return told;
        }
        Copy best = null;
        int greatest = 0;
        for (int c = 0; c < copy.number && c < copies.size(); c++) {
            Copy before = copies.get(c);
            int worth = worthAsModel(before, copy);
            if (best == null || worth > greatest) {
                best = before;
                greatest = worth;
            }
        }
        return best;
    }

    private static int worthAsModel(Copy other, Copy copy) {
        int both = copy.countSharedWith(other);
        int onlyOther = other.countErrors() - both;
        return 2 * both - onlyOther;
    }

    /** The readings that the next copy gets instead of its model's. */
    private static final class Draft {
        final int[] readings = new int[PLACES];
        int filled = 0;

        Draft() {
            Arrays.fill(readings, NO_READING);
        }

        boolean hasRoomAt(int place) {
            return filled < MOST_IN_DRAFT || isFilled(place);
        }

        boolean isFilled(int place) {
            return place >= 0 && place < PLACES && readings[place] != NO_READING;
        }

        void put(int place, int reading) {
            if (place < 0 || place >= PLACES) {
                return;
            }
            if (isFilled(place)) {
                filled--;
            }
            readings[place] = reading;
            if (isFilled(place)) {
                filled++;
            }
        }

        void clear() {
            Arrays.fill(readings, NO_READING);
            filled = 0;
        }

        /** Answers how many readings became unlike, as only those are slips. */
        int writeInto(Copy copy) {
            int unlike = 0;
            for (int place = 0; place < PLACES; place++) {
                if (isFilled(place) && copy.readings[place] != readings[place]) {
                    copy.readings[place] = readings[place];
                    unlike++;
                }
            }
            return unlike;
        }
    }

    private static final class House {
        final int number;
        final boolean[] held = new boolean[MOST_LETTERS];
        int coins = COINS_AT_FIRST;
        int laidDown = 0;

        House(int number) {
            this.number = number;
        }

        boolean holds(int letter) {
            return letter >= 0 && letter < MOST_LETTERS && held[letter];
        }

        void take(int letter) {
            if (letter >= 0 && letter < MOST_LETTERS) {
                held[letter] = true;
            }
        }

        void takeLettersOf(House other) {
            for (int letter = 0; letter < MOST_LETTERS; letter++) {
                if (other.holds(letter)) {
                    take(letter);
                }
            }
        }
    }

    private static final class Copy {
        final int number;
        /** Null for the copy 0 alone. */
        final Copy model;
        final House owner;
        final int[] readings = new int[PLACES];
        House house;
        boolean isTold = false;
        int family;

        Copy(int number, Copy model, House owner) {
            this.number = number;
            this.model = model;
            this.owner = owner;
            this.house = owner;
            this.family = number;
            if (model != null) {
                System.arraycopy(model.readings, 0, readings, 0, PLACES);
            }
        }

        Copy modelIfTold() {
            return isTold ? model : null;
        }

        boolean isKinOf(Copy other) {
            return modelIfTold() == other || other.modelIfTold() == this || countSharedWith(other) > 0;
        }

        int countErrors() {
            return countSharedWith(this);
        }

        int countSharedWith(Copy other) {
            int count = 0;
            for (int place = 0; place < PLACES; place++) {
                if (readings[place] != RIGHT && readings[place] == other.readings[place]) {
                    count++;
                }
            }
            return count;
        }
    }

    private static final class Letter {
        final int place;
        final int was;
        final int now;

        Letter(int place, int was, int now) {
            this.place = place;
            this.was = was;
            this.now = now;
        }

        boolean changes(Copy copy) {
            if (place < 0 || place >= PLACES || copy.readings[place] != was) {
                return false;
            }
            copy.readings[place] = now;
            return true;
        }
    }

    private static final class Loan {
        final Copy copy;
        final House borrower;
        final int lastDay;
        final int pledge;
        boolean isBack = false;
        int daysLateAtEnd = 0;

        Loan(Copy copy, House borrower, int lastDay, int pledge) {
            this.copy = copy;
            this.borrower = borrower;
            this.lastDay = lastDay;
            this.pledge = pledge;
        }

        int daysLateOn(int day) {
            return Math.max(0, day - lastDay);
        }

        int lostOn(int day) {
            int daysLate = daysLateOn(day);
            if (daysLate == 0) {
                return 0;
            }
            return daysLate <= DAYS_LATE_FOR_HALF ? (pledge + 1) / 2 : pledge;
        }
    }
}
