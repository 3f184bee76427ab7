import java.util.List;
import java.util.Set;
import java.util.TreeSet;

/** A test for each sentence of the document's terms and promises, and that no sentence goes without. */
public final class BoundsTest {
    public static void main(String[] args) {
        List<Bounds> parts = List.of(new BoundsOfTerms(), new BoundsOfCopies(), new BoundsOfFamilies(),
                new BoundsOfLetters(), new BoundsOfLoans());
        Set<String> held = new TreeSet<>();
        int asked = 0;
        int wrong = 0;
        for (Bounds part : parts) {
            part.run();
            held.addAll(part.held());
            asked += part.asked();
            wrong += part.wrong();
        }
        for (String sentence : Bounds.promised()) {
            if (!held.contains(sentence)) {
                wrong++;
                System.out.println(sentence + ": has no test");
            }
        }
        System.out.println("BoundsTest: " + held.size() + " sentences, " + asked + " answers, " + wrong
                + " not as due");
        if (wrong != 0 || asked == 0) {
            System.exit(1);
        }
    }
}
