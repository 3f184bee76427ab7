import java.util.ArrayList;
import java.util.List;

/** All that calls show of an object in a state, a line for each answer. */
final class Sight {
    private static final int PLACES = 24;
    private static final int SCRIBES = 6;
    private static final int HOUSES = 5;

    private final State state;
    private final List<String> lines = new ArrayList<>();
    private final List<Asked> asked = new ArrayList<>();
    private final int copies;
    private final int letters;
    private final int loans;
    private final int[] houseOf;

    private record Asked(String text, State.Call call) {
    }

    private Sight(State state) {
        this.state = state;
        ModelCopies x = state.made();
        copies = x.copies();
        letters = x.letters();
        loans = x.loans();
        houseOf = new int[copies];
        for (int copy = 0; copy < copies; copy++) {
            houseOf[copy] = x.houseOf(copy);
        }
    }

    static List<String> of(State state) {
        Sight sight = new Sight(state);
        sight.askQueries();
        sight.askWhatIsHidden();
        return sight.lines;
    }

    private void askQueries() {
        ask("day", x -> x.day());
        ask("copies", x -> x.copies());
        ask("families", x -> x.families());
        ask("rightGuesses", x -> x.rightGuesses());
        ask("letters", x -> x.letters());
        ask("loans", x -> x.loans());
        for (int copy = 0; copy < copies; copy++) {
            askOfCopy(copy);
        }
        for (int scribe = 0; scribe < SCRIBES; scribe++) {
            int s = scribe;
            ask("slips " + s, x -> x.slips(s));
        }
        for (int error = 0; error < 9 * PLACES; error++) {
            int place = error / 9;
            int reading = error % 9 + 1;
            ask("spread " + place + " " + reading, x -> x.spread(place, reading));
            ask("sources " + place + " " + reading, x -> x.sources(place, reading));
        }
        for (int house = 0; house < HOUSES; house++) {
            askOfHouse(house);
        }
        for (int letter = 0; letter < letters; letter++) {
            int l = letter;
            ask("letter " + l, x -> x.letter(l));
        }
        for (int loan = 0; loan < loans; loan++) {
            int l = loan;
            ask("isBack " + l, x -> x.isBack(l));
            ask("late " + l, x -> x.late(l));
        }
        answerEachOnItsOwn();
    }

    private void askOfCopy(int copy) {
        ask("errors " + copy, x -> x.errors(copy));
        ask("houseOf " + copy, x -> x.houseOf(copy));
        ask("ownerOf " + copy, x -> x.ownerOf(copy));
        ask("toldModel " + copy, x -> x.toldModel(copy));
        ask("family " + copy, x -> x.family(copy));
        ask("familyByErrors " + copy, x -> x.familyByErrors(copy));
        ask("guess " + copy, x -> x.guess(copy));
        for (int place = 0; place < PLACES; place++) {
            int p = place;
            ask("reading " + copy + " " + p, x -> x.reading(copy, p));
        }
        for (int other = 0; other < copies; other++) {
            int o = other;
            ask("shared " + copy + " " + o, x -> x.shared(copy, o));
        }
    }

    private void askOfHouse(int house) {
        ask("coins " + house, x -> x.coins(house));
        ask("laidDown " + house, x -> x.laidDown(house));
        for (int letter = 0; letter < letters; letter++) {
            int l = letter;
            ask("hasLetter " + house + " " + l, x -> x.hasLetter(house, l));
        }
    }

    /** The draft, untold models and what loans will cost show themselves only in what later calls answer. */
    private void askWhatIsHidden() {
        for (int place = 0; place < PLACES; place++) {
            int p = place;
            ask("then slip " + p + " -1", x -> x.slip(p, -1));
        }
        answerInOneRun();
        ask("then copy", x -> x.copy(0, 0, houseOf[0], false));
        for (int place = 0; place < PLACES; place++) {
            int p = place;
            ask("then reading of the new one " + p, x -> x.reading(copies, p));
        }
        ask("then slips 0", x -> x.slips(0));
        answerInOneRun();
        for (int copy = 0; copy < copies; copy++) {
            int c = copy;
            ask("then tellModel " + c, x -> x.tellModel(c));
            ask("then toldModel " + c, x -> x.toldModel(c));
        }
        answerInOneRun();
        for (int copy = 0; copy < copies; copy++) {
            int c = copy;
            ask("then workIn " + houseOf[c] + " " + c, x -> x.workIn(houseOf[c], c));
            ask("then errors " + c, x -> x.errors(c));
        }
        answerInOneRun();
        ask("then pass 1", x -> x.pass(1));
        for (int loan = 0; loan < loans; loan++) {
            int l = loan;
            ask("then late " + l, x -> x.late(l));
            ask("then giveBack " + l, x -> x.giveBack(l));
        }
        for (int house = 0; house < HOUSES; house++) {
            askOfHouse(house);
        }
        answerInOneRun();
    }

    private void ask(String text, State.Call call) {
        asked.add(new Asked(text, call));
    }

    private void answerEachOnItsOwn() {
        ModelCopies x = state.made();
        int left = state.callsLeft();
        for (Asked one : asked) {
            if (left == 0) {
                x = state.made();
                left = state.callsLeft();
            }
            left--;
            lines.add(one.text + ": " + State.answer(x, one.call));
        }
        asked.clear();
    }

    private void answerInOneRun() {
        if (asked.size() > state.callsLeft()) {
            throw new AssertionError("more calls than an object is promised to answer");
        }
        ModelCopies x = state.made();
        for (Asked one : asked) {
            lines.add(one.text + ": " + State.answer(x, one.call));
        }
        asked.clear();
    }
}
