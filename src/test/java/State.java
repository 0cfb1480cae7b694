import java.util.Map;
import java.util.TreeMap;
import java.util.function.LongSupplier;

/** All that an object answers to questions: what its calls have left behind, as far as it can be seen. */
final class State {
    private final Map<String, String> answers = new TreeMap<>();

    /** Asks some 150 questions, and three for each sample. */
    State(TimeKeeper x) {
        ask("clock()", x::clock);
        ask("pass(0)", () -> x.pass(0));
        int size = x.size();
        ask("size()", () -> size);
        for (int i = 0; i < size; i++) {
            int at = i;
            ask("out(" + i + ")", () -> x.out(at));
        }
        for (int what = 0; what < 3; what++) {
            int w = what;
            ask("chosen(" + w + ")", () -> x.chosen(w));
        }
        for (int what = 0; what <= 10; what++) {
            int w = what;
            ask("about(" + w + ")", () -> x.about(w));
        }
        for (int peer = 0; peer < 8; peer++) {
            askOfPeer(x, peer);
        }
    }

    private void askOfPeer(TimeKeeper x, int peer) {
        for (int what = 0; what < 10; what++) {
            int w = what;
            ask("peer(" + peer + ", " + w + ")", () -> x.peer(peer, w));
        }
        long samples = x.peer(peer, Runs.SAMPLES);
        for (int i = 0; i < samples; i++) {
            for (int what = 0; what < 3; what++) {
                int at = i;
                int w = what;
                ask("sample(" + peer + ", " + at + ", " + w + ")", () -> x.sample(peer, at, w));
            }
        }
    }

    private void ask(String question, LongSupplier call) {
        answers.put(question, answer(call));
    }

    static String answer(LongSupplier call) {
        try {
            return Long.toString(call.getAsLong());
        } catch (RuntimeException e) {
            return "throws." + e.getClass().getSimpleName();
        }
    }

    /** Prints those answers alone that are not the same. */
    void isThatOf(String what, State due) {
        Check.same(what + ": how many answers", answers.size(), due.answers.size());
        for (Map.Entry<String, String> entry : answers.entrySet()) {
            String question = entry.getKey();
            Check.same(what + ": " + question, entry.getValue(), due.answers.getOrDefault(question, "no such thing"));
        }
    }
}
