/** The sections 'Promise 1' to 'Promise 19', sentence by sentence, where one names an edge: on both sides of it. */
public final class EdgesOfCallsTest extends Runs {
    private static final int[] EXTREMES = {Integer.MIN_VALUE, Integer.MAX_VALUE};
    private static final int[] NO_PEERS = {-1, 8, Integer.MIN_VALUE, Integer.MAX_VALUE};
    private static final long FAR = 1L << 34;
    private static final long MOST_WAY = 1L << 40;

    public static void main(String[] args) {
        newObject();
        type();
        wipe();
        put();
        pass();
        clockAndSet();
        drift();
        request();
        allOthersAreZero();
        hear();
        serve();
        turn();
        answer();
        peer();
        sample();
        chosen();
        about();
        sizeAndOut();
        Check.end("EdgesOfCallsTest");
    }

    /** A TAPE of so many bytes, all 0 but the first, which makes it a request of version 4. */
    private static TimeKeeper withTapeOf(int bytes) {
        TimeKeeper x = new TimeKeeper();
        for (int i = 0; i < bytes; i++) {
            x.type(i == 0 ? 35 : 0, 1);
        }
        return x;
    }

    // ---- 1

    private static void newObject() {
        Check.sentence("The clock and UPTIME are 0, TAPE and OUT are empty; no peer was asked or heard");
        TimeKeeper used = new TimeKeeper();
        used.drift(5);
        tellFour(used, 8192);
        used.type(1, 8);
        TimeKeeper x = new TimeKeeper();
        Check.same("clock", x.clock(), 0);
        Check.same("UPTIME", x.pass(0), 0);
        Check.same("OUT", x.size(), 0);
        Check.refused("OUT has no byte", INDEX, () -> x.out(0));
        Check.refused("TAPE has no byte", INDEX, () -> x.put(0, 0));
        for (int peer = 0; peer < 8; peer++) {
            Check.same("SENT", x.peer(peer, SENT), 0);
            Check.same("LAST", x.peer(peer, LAST), 0);
            Check.same("samples", x.peer(peer, SAMPLES), 0);
            Check.same("REACH", x.peer(peer, REACH), 0);
            Check.same("STRATUM", x.peer(peer, STRATUM), 0);
        }
        long[] due = {0, 0, 6, 0, 0, 0};
        for (int what = RATE; what <= LED; what++) {
            Check.same("about(" + what + ")", x.about(what), due[what - RATE]);
        }
        x.pass(1);
        Check.same("no DRIFT, no RATE, no REST", x.clock(), SECOND);
        Check.same("the TAPE", x.type(0, 1), 1);
    }

    // ---- 2 to 4

    private static void type() {
        Check.sentence("n bytes more on the TAPE (at first empty), the lowest byte of w first: how many it has");
        long w = 0x8182838485868788L;
        for (int n = 1; n <= 8; n++) {
            TimeKeeper x = withTapeOf(40);
            Check.same("type of " + n, x.type(w, n), 40 + n);
            for (int i = n; i < 8; i++) {
                x.type(0, 1);
            }
            Check.holds("serve", x.serve());
            for (int i = 0; i < 8; i++) {
                Check.same("byte " + i + " of " + n, x.out(24 + i), i < n ? 0x88 - i : 0);
            }
        }
        Check.sentence("n is not 1 .. 8");
        TimeKeeper x = new TimeKeeper();
        Check.refused("type of 0", ARGUMENT, () -> x.type(0, 0));
        Check.same("type of 1", x.type(0, 1), 1);
        Check.same("type of 8", x.type(0, 8), 9);
        Check.refused("type of 9", ARGUMENT, () -> x.type(0, 9));
        Check.refused("type of -1", ARGUMENT, () -> x.type(0, -1));
        for (int n : EXTREMES) {
            Check.refused("type of " + n, ARGUMENT, () -> x.type(0, n));
        }
        Check.sentence("there would be more than 64");
        for (int n = 1; n <= 8; n++) {
            int more = n;
            Check.same("type of " + n + " to 64", withTapeOf(64 - n).type(0, n), 64);
            Check.refused("type of " + n + " to 65", STATE, () -> withTapeOf(65 - more).type(0, more));
            Check.refused("type of " + n + " on 64", STATE, () -> withTapeOf(64).type(0, more));
        }
    }

    private static void wipe() {
        Check.sentence("The TAPE is empty");
        for (int bytes : new int[] {0, 1, 48, 64}) {
            TimeKeeper x = withTapeOf(bytes);
            x.wipe();
            Check.refused("put on a wiped TAPE of " + bytes, INDEX, () -> x.put(0, 1));
            Check.same("hear of it", x.hear(0), 1);
            Check.holds("serve of it", !x.serve());
            for (int i = 1; i <= 8; i++) {
                Check.same("type on it", x.type(0, 8), 8 * i);
            }
            Check.refused("type when it is full again", STATE, () -> x.type(0, 1));
        }
    }

    private static void put() {
        Check.sentence("Byte i of the TAPE becomes v. IndexOutOfBoundsException");
        for (int bytes : new int[] {0, 1, 8, 48, 63, 64}) {
            TimeKeeper x = withTapeOf(bytes);
            Check.refused("put at -1 of " + bytes, INDEX, () -> x.put(-1, 0));
            Check.refused("put at " + bytes + " of " + bytes, INDEX, () -> x.put(bytes, 0));
            for (int i : EXTREMES) {
                Check.refused("put at " + i + " of " + bytes, INDEX, () -> x.put(i, 0));
            }
            if (bytes > 0) {
                x.put(0, 1);
                x.put(bytes - 1, 1);
            }
            Check.same("how many bytes there are behind put", State.answer(() -> x.type(0, 1)),
                bytes < 64 ? Integer.toString(bytes + 1) : "throws.IllegalStateException");
        }
        for (int i = 40; i < 48; i++) {
            TimeKeeper x = withTapeOf(48);
            x.put(i, 200);
            Check.same("put at " + i + " alone", servedOrigin(x), 200L << 8 * (47 - i));
        }
        Check.sentence("v is not 0 .. 255");
        TimeKeeper x = withTapeOf(48);
        for (int v : new int[] {0, 1, 127, 128, 254, 255}) {
            x.put(47, v);
            Check.same("put of " + v, servedOrigin(x), v);
        }
        Check.refused("put of -1", ARGUMENT, () -> x.put(47, -1));
        Check.refused("put of 256", ARGUMENT, () -> x.put(47, 256));
        for (int v : EXTREMES) {
            Check.refused("put of " + v, ARGUMENT, () -> x.put(47, v));
        }
    }

    // ---- 5 to 8

    private static void pass() {
        Check.sentence("So many SECONDS: UPTIME");
        TimeKeeper x = new TimeKeeper();
        TimeKeeper y = new TimeKeeper();
        for (TimeKeeper one : new TimeKeeper[] {x, y}) {
            one.drift(-123);
            tellFour(one, -4096 * 77);
        }
        State before = new State(x);
        Check.same("pass(0)", x.pass(0), 3);
        new State(x).isThatOf("pass(0)", before);
        Check.same("pass(50)", y.pass(50), 53);
        for (int i = 1; i <= 50; i++) {
            Check.same("pass(1)", x.pass(1), 3 + i);
        }
        Check.same("the clock of one by one", x.clock(), y.clock());
        Check.same("REST of one by one", x.about(REST), y.about(REST));
        Check.sentence("n is not 0 .. 4096");
        TimeKeeper z = new TimeKeeper();
        Check.refused("pass(-1)", ARGUMENT, () -> z.pass(-1));
        Check.same("pass(0)", z.pass(0), 0);
        Check.same("pass(4095)", z.pass(4095), 4095);
        Check.same("pass(4096)", z.pass(4096), 8191);
        Check.refused("pass(4097)", ARGUMENT, () -> z.pass(4097));
        for (int n : EXTREMES) {
            Check.refused("pass(" + n + ")", ARGUMENT, () -> z.pass(n));
        }
        Check.same("clock", z.clock(), 8191 * SECOND);
        TimeKeeper longest = new TimeKeeper();
        for (int i = 1; i <= 500; i++) {
            Check.same("UPTIME", longest.pass(4096), 4096 * i);
        }
        Check.same("clock", longest.clock(), 2048000 * SECOND);
    }

    private static void clockAndSet() {
        Check.sentence("The clock becomes another one");
        for (long stamp : new long[] {Long.MIN_VALUE, Long.MIN_VALUE + 1, -1, 0, 1, Long.MAX_VALUE - 1, Long.MAX_VALUE}) {
            TimeKeeper x = new TimeKeeper();
            x.set(1L << 41);
            tellFour(x, 8192);
            x.request(0);
            x.answer(0, 1, 0, 0, 8192, 8192, 0, 8192);
            long clock = x.clock();
            State before = new State(x);
            x.set(stamp);
            Check.same("clock", x.clock(), stamp);
            x.set(clock);
            new State(x).isThatOf("all but the clock", before);
            Check.same("a reply to the request of before", x.hear(0), 0);
            Check.same("its OFFSET", x.peer(0, OFFSET), 8192);
        }
    }

    private static void drift() {
        Check.sentence("The DRIFT. IllegalArgumentException (-2000000 .. 2000000)");
        TimeKeeper x = new TimeKeeper();
        long due = 0;
        for (int d : new int[] {2000000, 1999999, 1, 0, -1, -1999999, -2000000, 0}) {
            x.drift(d);
            x.pass(3);
            due += 3 * (SECOND + d);
            Check.same("clock with DRIFT " + d, x.clock(), due);
        }
        x.drift(-2000000);
        for (int d : new int[] {2000001, -2000001, Integer.MIN_VALUE, Integer.MAX_VALUE}) {
            Check.refused("drift(" + d + ")", ARGUMENT, () -> x.drift(d));
        }
        x.pass(1);
        Check.same("the DRIFT of before", x.clock(), due + SECOND - 2000000);
    }

    // ---- 9 to 13

    private static void request() {
        Check.sentence("A REQUEST to a peer; OUT (at first empty) becomes it: its transmit stamp. IndexOutOfBoundsException");
        TimeKeeper x = new TimeKeeper();
        for (int peer : NO_PEERS) {
            Check.refused("request(" + peer + ")", INDEX, () -> x.request(peer));
        }
        Check.same("OUT is empty as long as none was asked", x.size(), 0);
        x.type(9, 3);
        for (int peer = 0; peer < 8; peer++) {
            x.set(1000 + peer);
            Check.same("request(" + peer + ")", x.request(peer), 1000 + peer);
            if (peer % 7 != 0) {
                continue;
            }
            int[] due = new int[48];
            due[0] = 35;
            due[2] = 6;
            due[3] = 238;
            due[46] = 3;
            due[47] = 232 + peer;
            outIs("a request", x, due);
        }
        for (int peer = 0; peer < 8; peer++) {
            Check.same("SENT", x.peer(peer, SENT), 1000 + peer);
        }
        Check.same("the TAPE stays", x.type(0, 1), 4);
        TimeKeeper known = told(new int[] {3}, new long[] {0});
        Check.same("THE STRATUM", known.about(2), 4);
        Check.same("POLL", known.about(POLL), 6);
        known.request(1);
        Check.same("our STRATUM is not told", known.out(1), 0);
        led(known, 0, 1);
        Check.same("POLL", known.about(POLL), 7);
        known.request(1);
        Check.same("POLL is told", known.out(2), 7);
        x.set(7);
        x.request(3);
        Check.same("SENT of the latest request", x.peer(3, SENT), 7);
        Check.same("SENT of another", x.peer(4, SENT), 1004);
    }

    private static void allOthersAreZero() {
        Check.sentence("all others 0 (of a request, of our reply, of an answer)");
        TimeKeeper x = new TimeKeeper();
        x.set(-1);
        for (int i = 0; i < 6; i++) {
            x.type(-1, 8);
        }
        x.put(0, 35);
        Check.holds("serve", x.serve());
        for (int i = 1; i < 24; i++) {
            Check.same("byte " + i + " of our reply", x.out(i), i == 2 ? 255 : i == 3 ? 238 : 0);
        }
        x.request(0);
        for (int i = 1; i < 40; i++) {
            Check.same("byte " + i + " of a request behind it", x.out(i), i == 2 ? 6 : i == 3 ? 238 : 0);
        }
        x.answer(0, 1, 0, 0, 5, 8192, 0, 8192);
        Check.same("hear of an answer over another TAPE", x.hear(0), 0);
        Check.same("its root numbers", x.peer(0, DISTANCE), 8192 + x.peer(0, DISPERSION) + 16384);
        x.put(0, 35);
        x.serve();
        Check.same("its poll", x.out(2), 0);
    }

    private static void hear() {
        Check.sentence("The TAPE is heard as a REPLY of a peer: 0 if it is taken. IndexOutOfBoundsException");
        TimeKeeper x = new TimeKeeper();
        x.set(1L << 41);
        for (int peer = 0; peer < 8; peer++) {
            x.request(peer);
            x.answer(peer, 1 + peer, 0, 0, 100 + peer, 8192, 0, 8192);
            Check.same("hear(" + peer + ")", x.hear(peer), 0);
            Check.same("the TAPE stays", x.hear(peer), 3);
        }
        for (int peer = 0; peer < 8; peer++) {
            Check.same("OFFSET", x.peer(peer, OFFSET), 100 + peer);
            Check.same("STRATUM", x.peer(peer, STRATUM), 1 + peer);
            Check.same("samples", x.peer(peer, SAMPLES), 1);
            Check.same("SENT", x.peer(peer, SENT), 0);
            Check.same("REACH", x.peer(peer, REACH), 1);
        }
        for (int peer : NO_PEERS) {
            Check.refused("hear(" + peer + ")", INDEX, () -> x.hear(peer));
        }
    }

    private static void serve() {
        Check.sentence("OUT becomes our reply, if it has 48 bytes");
        for (int bytes = 0; bytes <= 64; bytes++) {
            TimeKeeper x = withTapeOf(bytes);
            Check.holds("serve of " + bytes + " bytes", x.serve() == (bytes == 48));
            Check.same("OUT", x.size(), bytes == 48 ? 48 : 0);
        }
        Check.sentence("version 1 .. 4 and mode 3");
        int[][] firsts = {{3, 0}, {8 + 3, 1}, {16 + 3, 1}, {24 + 3, 1}, {32 + 3, 1}, {40 + 3, 0}, {56 + 3, 0}, {32 + 2, 0}, {32 + 4, 0}, {32 + 7, 0},
            {64 + 35, 1}, {128 + 35, 1}, {192 + 35, 1}};
        for (int[] first : firsts) {
            TimeKeeper x = withTapeOf(48);
            x.put(0, first[0]);
            x.request(0);
            Check.same("serve of byte 0 = " + first[0], x.serve() ? 1 : 0, first[1]);
            int version = first[0] >> 3 & 7;
            Check.same("byte 0 of OUT", x.out(0), first[1] == 0 ? 35 : 192 + 8 * version + 4);
        }
        Check.sentence("(and 192, if THE STRATUM is 0 or above 15), THE STRATUM (0 at first, or if it is above 15)");
        for (int stratum = 1; stratum <= 15; stratum++) {
            TimeKeeper x = told(new int[] {stratum}, new long[] {0});
            x.request(1);
            x.turn();
            Check.holds("serve", x.serve());
            Check.same("byte 0 behind stratum " + stratum, x.out(0), stratum == 15 ? 192 + 36 : 36);
            Check.same("byte 1 behind stratum " + stratum, x.out(1), stratum == 15 ? 0 : stratum + 1);
            for (int leap = 1; leap < 4; leap++) {
                x.put(0, 64 * leap + 35);
                x.serve();
                Check.same("byte 0 to a request of leap " + leap, x.out(0), stratum == 15 ? 192 + 36 : 36);
            }
        }
        TimeKeeper none = new TimeKeeper();
        for (int i = 0; i < 3; i++) {
            tell(none, 0, 0);
            none.pass(1);
        }
        none.request(1);
        none.turn();
        none.serve();
        Check.same("byte 0 without survivors", none.out(0), 192 + 36);
        Check.same("byte 1 without survivors", none.out(1), 0);
        servedBytes();
    }

    private static void servedBytes() {
        Check.sentence("its poll, 238, root delay and root dispersion 0, the origin its transmit stamp, the receive and transmit stamps the clock's");
        for (int i = 1; i < 48; i++) {
            TimeKeeper x = withTapeOf(48);
            x.set(0x0102030405060708L);
            x.put(i, 255);
            Check.holds("serve", x.serve());
            int[] due = new int[48];
            due[0] = 192 + 36;
            due[2] = i == 2 ? 255 : 0;
            due[3] = 238;
            for (int k = 0; k < 8; k++) {
                due[24 + k] = i == 40 + k ? 255 : 0;
                due[32 + k] = k + 1;
                due[40 + k] = k + 1;
            }
            outIs("our reply to byte " + i, x, due);
            Check.holds("the TAPE stays", x.serve());
        }
    }

    private static void turn() {
        Check.sentence("The TAPE becomes OUT");
        for (int bytes : new int[] {0, 47, 48, 49, 64}) {
            TimeKeeper x = withTapeOf(bytes);
            x.turn();
            Check.refused("put on an empty OUT that was turned", INDEX, () -> x.put(0, 0));
            Check.same("type behind an empty OUT", x.type(0, 1), 1);
            TimeKeeper y = withTapeOf(bytes);
            y.set(0x0102030405060708L);
            y.request(0);
            y.turn();
            Check.same("the TAPE is the request", servedOrigin(y), 0x0102030405060708L);
            y.request(0);
            y.turn();
            y.put(47, 9);
            Check.refused("put behind OUT", INDEX, () -> y.put(48, 0));
            Check.same("OUT stays another row", y.out(47), 8);
            Check.same("the TAPE's last byte", servedOrigin(y), 0x0102030405060709L);
            Check.same("type behind OUT", y.type(0, 8), 56);
            Check.same("size of OUT", y.size(), 48);
        }
    }

    private static void answer() {
        Check.sentence("stratum is not 0 .. 255, a root number below 0, out, held or back not 0 .. 2^40");
        TimeKeeper x = new TimeKeeper();
        for (int stratum : new int[] {0, 1, 15, 16, 254, 255}) {
            x.request(0);
            x.answer(0, stratum, 0, 0, 0, 8192, 0, 8192);
            Check.same("hear of stratum " + stratum, x.hear(0), stratum >= 1 && stratum <= 15 ? 0 : 6);
        }
        Check.refused("stratum -1", ARGUMENT, () -> x.answer(0, -1, 0, 0, 0, 0, 0, 0));
        Check.refused("stratum 256", ARGUMENT, () -> x.answer(0, 256, 0, 0, 0, 0, 0, 0));
        for (int root : new int[] {0, 1, 1 << 20, Integer.MAX_VALUE}) {
            x.request(0);
            x.answer(0, 1, root, 0, 0, 8192, 0, 8192);
            Check.same("hear of root delay " + root, x.hear(0), root <= 1 << 21 ? 0 : 7);
            x.request(0);
            x.answer(0, 1, 0, root, 0, 8192, 0, 8192);
            Check.same("hear of root dispersion " + root, x.hear(0), root <= 1 << 20 ? 0 : 7);
        }
        Check.refused("root delay -1", ARGUMENT, () -> x.answer(0, 1, -1, 0, 0, 0, 0, 0));
        Check.refused("root dispersion -1", ARGUMENT, () -> x.answer(0, 1, 0, -1, 0, 0, 0, 0));
        waysOfAnswer(x);
        for (int peer : NO_PEERS) {
            Check.refused("answer of peer " + peer, INDEX, () -> x.answer(peer, 1, 0, 0, 0, 0, 0, 0));
        }
        Check.sentence("the receive stamp SENT + offset + out, the transmit stamp that and held; then the clock grows by out + held + back");
        for (int peer = 0; peer < 8; peer++) {
            stampsOfAnswer(peer, 1L << 41, 12345);
            stampsOfAnswer(peer, Long.MAX_VALUE, 12345);
            stampsOfAnswer(peer, Long.MIN_VALUE, -12345);
            stampsOfAnswer(peer, -3, 3);
        }
        // Twice such an offset wraps to near 0.
        for (long offset : new long[] {Long.MIN_VALUE, Long.MAX_VALUE}) {
            TimeKeeper far = new TimeKeeper();
            far.request(0);
            Check.same("answer of offset " + offset, far.answer(0, 1, 0, 0, offset, 1, 2, 4), 7);
            Check.same("hear of offset " + offset, far.hear(0), 0);
            Check.same("OFFSET of " + offset, far.peer(0, OFFSET), offset < 0 ? -1 : -2);
            Check.same("LAST of " + offset, far.peer(0, LAST), offset + 4);
        }
    }

    private static void waysOfAnswer(TimeKeeper x) {
        for (long way : new long[] {0, 1, MOST_WAY - 1, MOST_WAY}) {
            x.set(0);
            Check.same("out " + way, x.answer(0, 1, 0, 0, 0, way, 0, 0), way);
            x.set(0);
            Check.same("held " + way, x.answer(0, 1, 0, 0, 0, 0, way, 0), way);
            x.set(0);
            Check.same("back " + way, x.answer(0, 1, 0, 0, 0, 0, 0, way), way);
        }
        for (long way : new long[] {-1, MOST_WAY + 1, Long.MIN_VALUE, Long.MAX_VALUE}) {
            Check.refused("out " + way, ARGUMENT, () -> x.answer(0, 1, 0, 0, 0, way, 0, 0));
            Check.refused("held " + way, ARGUMENT, () -> x.answer(0, 1, 0, 0, 0, 0, way, 0));
            Check.refused("back " + way, ARGUMENT, () -> x.answer(0, 1, 0, 0, 0, 0, 0, way));
        }
    }

    private static void stampsOfAnswer(int peer, long sent, long offset) {
        TimeKeeper x = new TimeKeeper();
        x.set(sent);
        x.request(peer);
        x.pass(2);
        Check.same("the clock", x.answer(peer, 3, 0, 0, offset, 20000, 700, 30000), sent + 2 * SECOND + 50700);
        Check.same("UPTIME", x.pass(0), 2);
        Check.same("SENT stays", x.peer(peer, SENT), sent);
        Check.same("hear", x.hear(peer), 0);
        Check.same("the transmit stamp", x.peer(peer, LAST), sent + offset + 20700);
        Check.same("the DELAY", x.peer(peer, DELAY), 2 * SECOND + 50000);
        Check.same("the OFFSET", x.peer(peer, OFFSET), Math.floorDiv(2 * offset + 20000 - 30000 - 2 * SECOND, 2L));
        x.put(0, 35);
        Check.same("the origin of our reply to it", servedOrigin(x), sent + offset + 20700);
        Check.same("the poll of our reply to it", x.out(2), 0);
    }

    // ---- 14 to 19

    private static void peer() {
        Check.sentence("it has no sample (2 .. 6)");
        TimeKeeper x = new TimeKeeper();
        TimeKeeper one = new TimeKeeper();
        TimeKeeper stepped = new TimeKeeper();
        for (int peer = 0; peer < 8; peer++) {
            tell(one, peer, 0);
        }
        tellFour(stepped, SECOND);
        for (int what = 0; what <= 9; what++) {
            int w = what;
            boolean needsSample = what >= 2 && what <= 6;
            for (int peer = 0; peer < 8; peer++) {
                int p = peer;
                String answer = State.answer(() -> x.peer(p, w));
                Check.same("peer(" + peer + ", " + what + ") without", answer, needsSample ? "throws.IllegalStateException" : "0");
                one.peer(peer, what);
            }
            String answer = State.answer(() -> stepped.peer(0, w));
            Check.holds("peer(0, " + what + ") behind a step", answer.startsWith("throws.IllegalStateException") == needsSample);
        }
        Check.sentence("another what; IndexOutOfBoundsException");
        for (TimeKeeper k : new TimeKeeper[] {x, one}) {
            for (int what : new int[] {-1, 10, Integer.MIN_VALUE, Integer.MAX_VALUE}) {
                Check.refused("peer(7, " + what + ")", ARGUMENT, () -> k.peer(7, what));
            }
            for (int peer : NO_PEERS) {
                Check.refused("peer(" + peer + ", 9)", INDEX, () -> k.peer(peer, 9));
            }
        }
    }

    private static void sample() {
        Check.sentence("Of a peer's sample at place i of THE ORDER; IndexOutOfBoundsException");
        TimeKeeper x = new TimeKeeper();
        x.set(1L << 41);
        for (int n = 0; n <= 9; n++) {
            int count = Math.min(8, n);
            for (int i = 0; i < count; i++) {
                Check.same("DELAY at " + i, x.sample(7, i, 1), 2 * (9000 + n - count + i));
            }
            Check.refused("sample at " + count, INDEX, () -> x.sample(7, count, 0));
            Check.refused("sample at -1", INDEX, () -> x.sample(7, -1, 0));
            tell(x, 7, 1, n, 9000 + n);
        }
        for (int i : new int[] {8, 9, Integer.MIN_VALUE, Integer.MAX_VALUE}) {
            Check.refused("sample at " + i, INDEX, () -> x.sample(7, i, 0));
        }
        for (int peer : NO_PEERS) {
            Check.refused("sample of peer " + peer, INDEX, () -> x.sample(peer, 0, 0));
        }
        Check.refused("sample of a peer without", INDEX, () -> x.sample(6, 0, 0));
        Check.sentence("OFFSET (what = 0), DELAY (1), dispersion NOW (2); another what");
        Check.same("what 0", x.sample(7, 7, 0), 9);
        Check.same("what 1", x.sample(7, 7, 1), 18018);
        Check.same("what 2", x.sample(7, 7, 2), 16384);
        for (int what : new int[] {-1, 3, Integer.MIN_VALUE, Integer.MAX_VALUE}) {
            Check.refused("what " + what, ARGUMENT, () -> x.sample(7, 7, what));
        }
        TimeKeeper stepped = new TimeKeeper();
        tellFour(stepped, SECOND);
        Check.refused("sample behind a step", INDEX, () -> stepped.sample(0, 0, 0));
    }

    private static void chosen() {
        Check.sentence("0 without an UPDATE");
        TimeKeeper x = new TimeKeeper();
        chosenIs("a new object", x, 0, 0, 0);
        x.request(0);
        x.hear(0);
        chosenIs("a reply that was refused", x, 0, 0, 0);
        Check.sentence("the bits of peers that were candidates, that survived the intervals, that were left at the end");
        int[] ones = {1, 1, 1, 1, 1, 1, 1, 1};
        chosenIs("all eight", told(ones, new long[8]), 255, 255, 255);
        chosenIs("one outside", told(ones, new long[] {0, 0, 0, FAR, 0, 0, 0, 0}), 255, 247, 247);
        Check.sentence("1 and 2 are 0 where none survived it");
        // The first one alone survived an UPDATE before the second one was a candidate.
        TimeKeeper none = told(ones, new long[] {0, FAR});
        Check.same("led", none.about(LED), 1);
        chosenIs("two apart", none, 3, 0, 0);
        for (int i = 0; i < 8; i++) {
            none.request(0);
            none.request(1);
        }
        tell(none, 2, 0);
        chosenIs("no candidates", none, 0, 0, 0);
        Check.sentence("of the latest UPDATE; another what");
        TimeKeeper later = told(ones, new long[] {0, 0});
        tell(later, 0, FAR);
        chosenIs("no UPDATE since", later, 3, 3, 3);
        for (int what : new int[] {-1, 3, Integer.MIN_VALUE, Integer.MAX_VALUE}) {
            Check.refused("chosen(" + what + ")", ARGUMENT, () -> later.chosen(what));
            Check.refused("chosen(" + what + ") of a new object", ARGUMENT, () -> new TimeKeeper().chosen(what));
        }
    }

    private static void about() {
        Check.sentence("no UPDATE had survivors yet (0 .. 4)");
        TimeKeeper x = new TimeKeeper();
        aboutIsRefused("a new object", x);
        for (int i = 0; i < 3; i++) {
            tell(x, 0, 8192);
            x.pass(1);
        }
        aboutIsRefused("an UPDATE without candidates", x);
        tell(x, 0, 8192);
        long[] due = {8192, 16384, 2, 8192 - DISTANCE_OF_FOUR, 8192 + DISTANCE_OF_FOUR, 0, 8192, 6, 6, 0, 1};
        for (int what = 0; what <= 10; what++) {
            Check.same("about(" + what + ")", x.about(what), due[what]);
        }
        Check.sentence("of the latest UPDATE that had survivors");
        // Both become candidates in one second, before any UPDATE had survivors.
        TimeKeeper apart = new TimeKeeper();
        for (int i = 0; i < 4; i++) {
            tell(apart, 0, 0);
            tell(apart, 1, FAR);
        }
        apart.pass(1);
        tell(apart, 1, FAR);
        chosenIs("two apart", apart, 3, 0, 0);
        aboutIsRefused("an UPDATE without survivors", apart);
        for (int i = 0; i < 8; i++) {
            x.request(0);
        }
        x.pass(1);
        tell(x, 1, 0);
        chosenIs("no candidates", x, 0, 0, 0);
        Check.same("THE OFFSET stays", x.about(0), 8192);
        Check.same("THE JITTER stays", x.about(1), 16384);
        Check.same("THE STRATUM stays", x.about(2), 2);
        Check.same("L stays", x.about(3), due[3]);
        Check.same("H stays", x.about(4), due[4]);
        Check.sentence("another what");
        for (int what : new int[] {-1, 11, Integer.MIN_VALUE, Integer.MAX_VALUE}) {
            Check.refused("about(" + what + ")", ARGUMENT, () -> x.about(what));
        }
    }

    private static void aboutIsRefused(String what, TimeKeeper x) {
        for (int w = 0; w <= 4; w++) {
            int k = w;
            Check.refused("about(" + w + ") of " + what, STATE, () -> x.about(k));
        }
        long[] due = {0, 0, 6, 0, 0, 0};
        for (int w = RATE; w <= LED; w++) {
            Check.same("about(" + w + ") of " + what, x.about(w), due[w - RATE]);
        }
    }

    private static void sizeAndOut() {
        Check.sentence("How many bytes OUT has; Byte i of OUT. IndexOutOfBoundsException");
        TimeKeeper x = new TimeKeeper();
        x.type(35, 8);
        x.answer(0, 1, 0, 0, 0, 0, 0, 0);
        x.hear(0);
        x.serve();
        Check.same("size when nothing went out", x.size(), 0);
        for (int i : new int[] {-1, 0, 47, Integer.MIN_VALUE, Integer.MAX_VALUE}) {
            Check.refused("out(" + i + ") when nothing went out", INDEX, () -> x.out(i));
        }
        x.set(-2);
        x.request(0);
        Check.same("size of a request", x.size(), 48);
        Check.same("out(0)", x.out(0), 35);
        Check.same("out(46)", x.out(46), 255);
        Check.same("out(47)", x.out(47), 254);
        for (int i : new int[] {-1, 48, 64, Integer.MIN_VALUE, Integer.MAX_VALUE}) {
            Check.refused("out(" + i + ")", INDEX, () -> x.out(i));
        }
        x.wipe();
        x.turn();
        x.serve();
        Check.same("size of our reply", x.size(), 48);
        Check.same("out(0) of our reply", x.out(0), 228);
        Check.refused("out(48) of our reply", INDEX, () -> x.out(48));
        x.wipe();
        x.turn();
        Check.same("size behind a turn", x.size(), 48);
    }
}
