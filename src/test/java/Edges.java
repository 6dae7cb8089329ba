import java.io.IOException;
import java.nio.file.Path;

/** Tests of the document's sentences: each names the sentence, word for word, that asks for its answers. */
final class Edges {
    private static final Path DOCUMENT = Path.of("../shared/DOC.md");
    private final Check check = new Check();
    private final Document document;

    Edges() throws IOException {
        document = new Document(DOCUMENT);
    }

    /** Each run is of calls on a new object. */
    void edge(int section, String sentence, String... runs) {
        quote(section, sentence);
        for (String run : runs) {
            Words.run(check, section + " '" + sentence + "'", new SwornElsewhere(), run);
        }
    }

    /** A call that is refused, in all states. */
    void refused(int section, String sentence, long want, String... calls) {
        for (State state : State.values()) {
            refusedIn(state, section, sentence, want, calls);
        }
    }

    void refusedIn(State state, int section, String sentence, long want, String... calls) {
        quote(section, sentence);
        int number = want <= -11 && want >= -15 ? (int) (-10 - want) : 0;
        for (String call : calls) {
            refusal(state, section + " '" + sentence + "' " + state + ": " + call, want, number, call);
        }
    }

    /** A finding where the answer is the least int. */
    void foundIn(State state, int section, String sentence, int number, String... calls) {
        quote(section, sentence);
        for (String call : calls) {
            String name = section + " '" + sentence + "' " + state + ": " + call;
            refusal(state, name, Integer.MIN_VALUE, number, call);
        }
    }

    void answers(String name, long got, long want) {
        check.due(name, got, want);
    }

    /** The digest of an object so told is made of its other answers. */
    void digested(String run) {
        SwornElsewhere x = new SwornElsewhere();
        SwornElsewhere twin = new SwornElsewhere();
        Words.run(check, "39: digest", x, run);
        Words.run(check, "39: digest", twin, run);
        check.due("39: digest of " + run, x.digest(), EdgeDigest.of(twin));
    }

    /** Calls that only ask, whatever they answer. */
    void changesNothing(State state, String... calls) {
        for (String call : calls) {
            alike(state, state + ": " + call, call);
        }
    }

    /** Answers what is due, and is as one of which that was never asked, but for the number of a finding. */
    private void refusal(State state, String name, long want, int number, String call) {
        SwornElsewhere x = state.made();
        int before = x.count(8);
        check.due(name, Words.call(x, call), want);
        check.due(name + ", count(8)", x.count(8), number == 0 ? before : number);
        alike(state, name, call);
    }

    private void alike(State state, String name, String call) {
        for (int part = 0; part < View.PARTS; part++) {
            SwornElsewhere x = state.made();
            Words.call(x, call);
            boolean same = View.of(x, part).equals(View.of(state.made(), part));
            check.due(name + " changed something, part " + part, same ? 0 : 1, 0);
        }
    }

    private void quote(int section, String sentence) {
        check.due("the document has no '" + sentence + "' in " + section, document.quote(section, sentence) ? 0 : 1, 0);
    }

    void end() {
        for (int section = 0; section < Document.SECTIONS; section++) {
            check.due("section " + section + " was not found", document.empty(section) ? 1 : 0, 0);
            String left = document.left(section);
            check.due("section " + section + " has words without a test: " + left, left.length(), 0);
        }
        check.end();
    }
}
