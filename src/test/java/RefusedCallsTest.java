import java.util.function.Consumer;
import java.util.function.Supplier;

/** "A call that throws changes nothing", and "of several exceptions the one named first is thrown", call by call. */
public final class RefusedCallsTest extends Runs {
    private static final int[] NO_PEERS = {-1, 8, Integer.MIN_VALUE, Integer.MAX_VALUE};
    private static final long MOST_WAY = 1L << 40;

    public static void main(String[] args) {
        refusedCallsChangeNothing();
        refusedRepliesChangeNothing();
        questionsChangeNothing();
        firstNamedIsThrown();
        Check.end("RefusedCallsTest");
    }

    // ---- two objects of the same past, only one of which gets the call

    /** Led twice, with a DRIFT, a RATE and a REST; a good reply of peer 0 lies on the TAPE, peer 2 was asked. */
    private static TimeKeeper busy() {
        TimeKeeper x = new TimeKeeper();
        x.set(1L << 41);
        x.drift(-77);
        tellFour(x, 4096 * 100);
        x.pass(16);
        tell(x, 0, 3, 7, 4096 * 200, 8192);
        tell(x, 1, 2, 9, 4096 * 150, 9000);
        x.request(2);
        x.pass(3);
        x.request(0);
        x.answer(0, 4, 11, 13, 4096 * 180, 8192, 5, 8193);
        return x;
    }

    private static TimeKeeper withTapeOf(int bytes) {
        TimeKeeper x = busy();
        x.wipe();
        for (int i = 0; i < bytes; i += 8) {
            x.type(i, Math.min(8, bytes - i));
        }
        return x;
    }

    private static void changesNothing(String what, Supplier<TimeKeeper> past, Consumer<TimeKeeper> call) {
        TimeKeeper called = past.get();
        TimeKeeper twin = past.get();
        call.accept(called);
        new State(called).isThatOf("behind " + what, new State(twin));
        goOn(what, called, twin);
        new State(called).isThatOf("later behind " + what, new State(twin));
    }

    /** What no question shows (the TAPE, the DRIFT, what an UPDATE looked at) shows here. */
    private static void goOn(String what, TimeKeeper called, TimeKeeper twin) {
        String[] due = new String[2];
        for (int i = 0; i < 2; i++) {
            TimeKeeper x = i == 0 ? called : twin;
            String heard = State.answer(() -> x.hear(0));
            String put = State.answer(() -> {
                x.put(0, 35);
                return 0;
            });
            String served = State.answer(() -> x.serve() ? 1 : 0);
            String typed = State.answer(() -> x.type(-1, 4));
            due[i] = heard + " " + put + " " + served + " " + typed;
            tell(x, 0, 4096 * 190);
            x.pass(5);
            tell(x, 1, 4096 * 170);
            x.request(3);
        }
        Check.same("hear, put, serve and type behind " + what, due[0], due[1]);
    }

    private static void refusalChangesNothing(String what, Class<? extends RuntimeException> due, Supplier<TimeKeeper> past,
            Consumer<TimeKeeper> call) {
        changesNothing(what, past, x -> Check.refused(what, due, () -> call.accept(x)));
    }

    private static void refusalChangesNothing(String what, Class<? extends RuntimeException> due, Consumer<TimeKeeper> call) {
        refusalChangesNothing(what, due, RefusedCallsTest::busy, call);
    }

    // ---- "A call that throws changes nothing"

    private static void refusedCallsChangeNothing() {
        Check.sentence("A call that throws changes nothing");
        type();
        put();
        passAndDrift();
        requestAndHear();
        answer();
        questions();
    }

    private static void type() {
        for (int n : new int[] {0, 9, -1, Integer.MIN_VALUE, Integer.MAX_VALUE}) {
            refusalChangesNothing("type(5, " + n + ")", ARGUMENT, x -> x.type(5, n));
        }
        for (int n = 1; n <= 8; n++) {
            int more = n;
            refusalChangesNothing("type(5, " + n + ") to 65", STATE, () -> withTapeOf(65 - more), x -> x.type(5, more));
        }
        refusalChangesNothing("type(5, 8) to 72", STATE, () -> withTapeOf(64), x -> x.type(5, 8));
        TimeKeeper full = withTapeOf(60);
        Check.refused("type of 5 on 60", STATE, () -> full.type(5, 5));
        Check.same("type of 4 on 60 behind a refusal", full.type(5, 4), 64);
    }

    private static void put() {
        for (int i : new int[] {-1, 48, 63, 64, Integer.MIN_VALUE, Integer.MAX_VALUE}) {
            refusalChangesNothing("put(" + i + ", 3)", INDEX, x -> x.put(i, 3));
        }
        for (int v : new int[] {-1, 256, Integer.MIN_VALUE, Integer.MAX_VALUE}) {
            for (int i : new int[] {0, 1, 2, 7, 11, 31, 39, 47}) {
                refusalChangesNothing("put(" + i + ", " + v + ")", ARGUMENT, x -> x.put(i, v));
            }
        }
    }

    private static void passAndDrift() {
        for (int n : new int[] {-1, 4097, Integer.MIN_VALUE, Integer.MAX_VALUE}) {
            refusalChangesNothing("pass(" + n + ")", ARGUMENT, x -> x.pass(n));
        }
        for (int d : new int[] {-2000001, 2000001, Integer.MIN_VALUE, Integer.MAX_VALUE}) {
            refusalChangesNothing("drift(" + d + ")", ARGUMENT, x -> x.drift(d));
        }
    }

    private static void requestAndHear() {
        for (int peer : NO_PEERS) {
            refusalChangesNothing("request(" + peer + ")", INDEX, x -> x.request(peer));
            refusalChangesNothing("hear(" + peer + ")", INDEX, x -> x.hear(peer));
        }
    }

    private static void answer() {
        for (int peer : NO_PEERS) {
            refusalChangesNothing("answer of peer " + peer, INDEX, x -> x.answer(peer, 2, 3, 4, 5, 6, 7, 8));
        }
        for (int stratum : new int[] {-1, 256, Integer.MIN_VALUE, Integer.MAX_VALUE}) {
            refusalChangesNothing("answer of stratum " + stratum, ARGUMENT, x -> x.answer(0, stratum, 3, 4, 5, 6, 7, 8));
        }
        for (int root : new int[] {-1, Integer.MIN_VALUE}) {
            refusalChangesNothing("answer of root delay " + root, ARGUMENT, x -> x.answer(0, 2, root, 4, 5, 6, 7, 8));
            refusalChangesNothing("answer of root dispersion " + root, ARGUMENT, x -> x.answer(0, 2, 3, root, 5, 6, 7, 8));
        }
        for (long way : new long[] {-1, MOST_WAY + 1, Long.MIN_VALUE, Long.MAX_VALUE}) {
            refusalChangesNothing("answer with out " + way, ARGUMENT, x -> x.answer(0, 2, 3, 4, 5, way, 7, 8));
            refusalChangesNothing("answer with held " + way, ARGUMENT, x -> x.answer(0, 2, 3, 4, 5, 6, way, 8));
            refusalChangesNothing("answer with back " + way, ARGUMENT, x -> x.answer(0, 2, 3, 4, 5, 6, 7, way));
        }
    }

    private static void questions() {
        for (int peer : NO_PEERS) {
            refusalChangesNothing("peer(" + peer + ", 0)", INDEX, x -> x.peer(peer, 0));
            refusalChangesNothing("sample(" + peer + ", 0, 0)", INDEX, x -> x.sample(peer, 0, 0));
        }
        for (int what : new int[] {-1, 10}) {
            refusalChangesNothing("peer(0, " + what + ")", ARGUMENT, x -> x.peer(0, what));
        }
        for (int what = OFFSET; what <= DISTANCE; what++) {
            int w = what;
            refusalChangesNothing("peer(2, " + what + ") without samples", STATE, x -> x.peer(2, w));
        }
        for (int i : new int[] {-1, 5, 8}) {
            refusalChangesNothing("sample(0, " + i + ", 0)", INDEX, x -> x.sample(0, i, 0));
        }
        for (int what : new int[] {-1, 3}) {
            refusalChangesNothing("sample(0, 0, " + what + ")", ARGUMENT, x -> x.sample(0, 0, what));
            refusalChangesNothing("chosen(" + what + ")", ARGUMENT, x -> x.chosen(what));
        }
        for (int what : new int[] {-1, 11}) {
            refusalChangesNothing("about(" + what + ")", ARGUMENT, x -> x.about(what));
        }
        for (int what = 0; what <= 4; what++) {
            int w = what;
            refusalChangesNothing("about(" + what + ") without survivors", STATE, TimeKeeper::new, x -> x.about(w));
        }
        for (int i : new int[] {-1, 48}) {
            refusalChangesNothing("out(" + i + ")", INDEX, x -> x.out(i));
        }
        refusalChangesNothing("out(0) of an empty OUT", INDEX, TimeKeeper::new, x -> x.out(0));
    }

    // ---- "the first test that it fails refuses it, and nothing is changed"

    private static void refusedRepliesChangeNothing() {
        Check.sentence("the first test that it fails refuses it, and nothing is changed");
        for (int tests = 1; tests < 256; tests++) {
            int failed = tests;
            int due = 1 + Integer.numberOfTrailingZeros(tests);
            String what = "hear of a reply that fails the tests of bits " + Integer.toBinaryString(tests);
            changesNothing(what, () -> withReplyThatFails(failed), x -> Check.same(what, x.hear(0), due));
        }
        Check.same("hear of a reply that fails none", withReplyThatFails(0).hear(0), 0);
        Check.sentence("OUT becomes our reply, if it has 48 bytes, version 1 .. 4 and mode 3");
        changesNothing("serve of a reply", RefusedCallsTest::busy, x -> Check.holds("serve of a reply", !x.serve()));
    }

    /** Bit 0 stands for test 1. */
    private static TimeKeeper withReplyThatFails(int tests) {
        TimeKeeper x = busy();
        if ((tests & 2) != 0) {
            x.put(0, 37);
        }
        if ((tests & 4) != 0) {
            putNumber(x, 40, 8, x.peer(0, LAST));
        }
        if ((tests & 8) != 0) {
            putNumber(x, 24, 8, x.peer(0, SENT) + 1);
        }
        if ((tests & 16) != 0) {
            putNumber(x, 32, 8, 0);
        }
        if ((tests & 32) != 0) {
            x.put(1, 16);
        }
        if ((tests & 64) != 0) {
            x.put(4, 255);
        }
        if ((tests & 128) != 0) {
            x.set(x.clock() + (1L << 42));
        }
        if ((tests & 1) != 0) {
            x.type(0, 1);
        }
        return x;
    }

    private static void questionsChangeNothing() {
        Check.sentence("Nothing is promised beyond the answers and state changes described above");
        TimeKeeper asked = busy();
        TimeKeeper twin = busy();
        new State(asked);
        goOn("all questions", asked, twin);
        new State(asked).isThatOf("behind all questions", new State(twin));
    }

    // ---- "of several exceptions the one named first is thrown"

    private static void firstNamedIsThrown() {
        Check.sentence("of several exceptions the one named first is thrown");
        for (int n : new int[] {9, 64, Integer.MAX_VALUE}) {
            Check.refused("type of " + n + " without room", ARGUMENT, () -> withTapeOf(64).type(0, n));
        }
        for (int i : new int[] {-1, 48, Integer.MIN_VALUE, Integer.MAX_VALUE}) {
            for (int v : new int[] {-1, 256, Integer.MIN_VALUE, Integer.MAX_VALUE}) {
                Check.refused("put(" + i + ", " + v + ")", INDEX, () -> busy().put(i, v));
            }
        }
        Check.refused("put(0, 256) on an empty TAPE", INDEX, () -> new TimeKeeper().put(0, 256));
        for (int peer : NO_PEERS) {
            firstNamedOfAnswer(peer);
            Check.refused("peer(" + peer + ", 10)", INDEX, () -> busy().peer(peer, 10));
            Check.refused("peer(" + peer + ", -1)", INDEX, () -> busy().peer(peer, -1));
            Check.refused("peer(" + peer + ", 2) without samples", INDEX, () -> new TimeKeeper().peer(peer, OFFSET));
            Check.refused("sample(" + peer + ", 0, 3)", INDEX, () -> busy().sample(peer, 0, 3));
            Check.refused("sample(" + peer + ", 9, -1)", INDEX, () -> busy().sample(peer, 9, -1));
        }
        for (int i : new int[] {-1, 5, Integer.MIN_VALUE, Integer.MAX_VALUE}) {
            Check.refused("sample(0, " + i + ", 3)", INDEX, () -> busy().sample(0, i, 3));
            Check.refused("sample(0, " + i + ", -1)", INDEX, () -> busy().sample(0, i, -1));
        }
        for (int what : new int[] {-1, 10, Integer.MIN_VALUE, Integer.MAX_VALUE}) {
            Check.refused("peer(0, " + what + ") without samples", ARGUMENT, () -> new TimeKeeper().peer(0, what));
        }
        for (int what : new int[] {-1, 11, Integer.MIN_VALUE, Integer.MAX_VALUE}) {
            Check.refused("about(" + what + ") without survivors", ARGUMENT, () -> new TimeKeeper().about(what));
        }
    }

    private static void firstNamedOfAnswer(int peer) {
        String what = "answer of peer " + peer + " and ";
        Check.refused(what + "stratum 256", INDEX, () -> busy().answer(peer, 256, 0, 0, 0, 0, 0, 0));
        Check.refused(what + "root delay -1", INDEX, () -> busy().answer(peer, 1, -1, 0, 0, 0, 0, 0));
        Check.refused(what + "root dispersion -1", INDEX, () -> busy().answer(peer, 1, 0, -1, 0, 0, 0, 0));
        Check.refused(what + "out -1", INDEX, () -> busy().answer(peer, 1, 0, 0, 0, -1, 0, 0));
        Check.refused(what + "held -1", INDEX, () -> busy().answer(peer, 1, 0, 0, 0, 0, -1, 0));
        Check.refused(what + "back -1", INDEX, () -> busy().answer(peer, 1, 0, 0, 0, 0, 0, -1));
    }
}
