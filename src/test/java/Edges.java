import java.util.ArrayList;
import java.util.List;

/** Sentences of the document that name an edge, each with a test of its own. */
final class Edges {
    /** Where it stands ("Terms", "Promise 7"), its words there, and the test of it. */
    record Sentence(String where, String words, Runnable test) { }

    private final List<Sentence> all = new ArrayList<>();

    Edges says(String where, String words, Runnable test) {
        all.add(new Sentence(where, words, test));
        return this;
    }

    List<Sentence> all() {
        return all;
    }

    /** Runs each sentence's test; one that asks nothing is no test. */
    void run(Due due) {
        for (Sentence sentence : all) {
            int asked = due.asked();
            int wrong = due.wrong();
            sentence.test().run();
            String name = sentence.where() + ", '" + sentence.words() + "'";
            if (due.wrong() > wrong) {
                System.out.println("  so it does not hold: " + name);
            }
            if (due.asked() == asked) {
                due.holds(name + ": something is asked", false);
            }
        }
        due.end();
    }
}
