import java.util.function.LongBinaryOperator;

/** Promise by promise: ordinary inputs, edges and wrong inputs, with answers worked out by hand. */
public final class PromisesTest extends Runs {
    public static void main(String[] args) {
        promise1NewObject();
        promise2Type();
        promise3Wipe();
        promise4Put();
        promise5Pass();
        promise6Clock();
        promise7Set();
        promise8Drift();
        promise9Request();
        promise10HearTests();
        promise10HearTaken();
        promise10HearRepliesAreKept();
        promise10HearWraps();
        promise11Serve();
        nothingIsLeftOfOldPackets();
        promise12Turn();
        promise13Answer();
        promise14Peer();
        promise14Jitter();
        promise15Sample();
        promise15SamplesGo();
        promise16ChosenIntervals();
        promise16ChosenRow();
        promise16WhenUpdatesCome();
        promise16Candidates();
        promise17About();
        promise17MeanOffset();
        promise17Rate();
        promise17PollAndCount();
        promise17Steps();
        promise17StepFromARate();
        promise18And19SizeAndOut();
        Check.end("PromisesTest");
    }

    private static void promise1NewObject() {
        TimeKeeper x = new TimeKeeper();
        Check.same("NONE", TimeKeeper.NONE, -1);
        Check.same("clock of a new object", x.clock(), 0);
        Check.same("UPTIME of a new object", x.pass(0), 0);
        Check.same("OUT of a new object", x.size(), 0);
        Check.refused("put on a new TAPE", INDEX, () -> x.put(0, 0));
        Check.holds("serve of an empty TAPE", !x.serve());
        for (int peer = 0; peer < 8; peer++) {
            int p = peer;
            Check.same("hear of an empty TAPE", x.hear(p), 1);
            for (int what : new int[] {SENT, LAST, SAMPLES, REACH, STRATUM}) {
                Check.same("peer(" + p + ", " + what + ") of a new object", x.peer(p, what), 0);
            }
            for (int what = OFFSET; what <= DISTANCE; what++) {
                int w = what;
                Check.refused("peer(" + p + ", " + w + ") of a new object", STATE, () -> x.peer(p, w));
            }
            Check.refused("sample of a new object", INDEX, () -> x.sample(p, 0, 0));
        }
        for (int what = 0; what < 3; what++) {
            Check.same("chosen(" + what + ") of a new object", x.chosen(what), 0);
        }
        for (int what = 0; what <= 4; what++) {
            int w = what;
            Check.refused("about(" + w + ") of a new object", STATE, () -> x.about(w));
        }
        long[] due = {0, 0, 6, 0, 0, 0};
        for (int what = RATE; what <= LED; what++) {
            Check.same("about(" + what + ") of a new object", x.about(what), due[what - RATE]);
        }
        Check.same("type on a new TAPE", x.type(0, 1), 1);
    }

    private static void promise2Type() {
        TimeKeeper x = new TimeKeeper();
        Check.same("type of 3 bytes", x.type(0x1122334455667788L, 3), 3);
        Check.same("type of 8 more", x.type(-1, 8), 11);
        for (int n : new int[] {0, 9, -1, Integer.MIN_VALUE, Integer.MAX_VALUE}) {
            Check.refused("type with n = " + n, ARGUMENT, () -> x.type(0, n));
        }
        Check.same("type after refusals", x.type(0, 1), 12);
        for (int i = 0; i < 6; i++) {
            x.type(0, 8);
        }
        Check.refused("type to 65", STATE, () -> x.type(0, 5));
        Check.same("type to 64", x.type(0, 4), 64);
        Check.refused("type on a full TAPE", STATE, () -> x.type(0, 1));
        Check.refused("type of 9 on a full TAPE", ARGUMENT, () -> x.type(0, 9));

        TimeKeeper y = new TimeKeeper();
        typePacket(y, 35, 0, 6, new int[2], new long[] {0, 0, 0});
        y.wipe();
        y.type(0x23, 8);
        for (int i = 0; i < 4; i++) {
            y.type(0, 8);
        }
        Check.same("type to 48", y.type(0x8877665544332211L, 8), 48);
        Check.same("the lowest byte stands first", servedOrigin(y), 0x1122334455667788L);
    }

    private static void promise3Wipe() {
        TimeKeeper x = new TimeKeeper();
        x.wipe();
        x.type(-1, 8);
        x.request(0);
        x.wipe();
        Check.refused("put on a wiped TAPE", INDEX, () -> x.put(0, 0));
        Check.same("hear of a wiped TAPE", x.hear(0), 1);
        Check.same("type on a wiped TAPE", x.type(0, 2), 2);
        Check.same("wipe leaves OUT", x.size(), 48);
    }

    private static void promise4Put() {
        TimeKeeper x = new TimeKeeper();
        x.request(0);
        x.turn();
        x.put(0, 35);
        x.put(2, 255);
        x.put(47, 1);
        x.put(40, 128);
        for (int i : new int[] {-1, 48, 64, Integer.MIN_VALUE, Integer.MAX_VALUE}) {
            Check.refused("put at " + i, INDEX, () -> x.put(i, 0));
            Check.refused("put of 256 at " + i, INDEX, () -> x.put(i, 256));
        }
        for (int v : new int[] {-1, 256, Integer.MIN_VALUE, Integer.MAX_VALUE}) {
            Check.refused("put of " + v, ARGUMENT, () -> x.put(2, v));
        }
        Check.same("transmit stamp that was put", servedOrigin(x), (1L << 63) + 1);
        Check.same("poll that was put", x.out(2), 255);
        x.put(2, 0);
        Check.same("put leaves OUT", x.out(2), 255);
        x.type(7, 1);
        x.put(48, 9);
        Check.refused("put behind the TAPE", INDEX, () -> x.put(49, 9));
    }

    private static void promise5Pass() {
        TimeKeeper x = new TimeKeeper();
        Check.same("pass(0)", x.pass(0), 0);
        Check.same("pass(3)", x.pass(3), 3);
        Check.same("clock after 3", x.clock(), 3 * SECOND);
        for (int n : new int[] {-1, 4097, Integer.MIN_VALUE, Integer.MAX_VALUE}) {
            Check.refused("pass(" + n + ")", ARGUMENT, () -> x.pass(n));
        }
        Check.same("pass(4096)", x.pass(4096), 4099);
        Check.same("clock after 4099", x.clock(), 4099 * SECOND);

        TimeKeeper wrapping = new TimeKeeper();
        wrapping.set(Long.MAX_VALUE);
        wrapping.pass(1);
        Check.same("a clock that wraps", wrapping.clock(), Long.MIN_VALUE + SECOND - 1);

        restIsSpent(8192);
        restIsSpent(-8192);
        restIsSpent(4096 * 1001);
        restIsSpent(-4096 * 1001);
        driftAndRateCount();
    }

    /** Second by second, and all at once. */
    private static void restIsSpent(long offset) {
        TimeKeeper x = new TimeKeeper();
        TimeKeeper y = new TimeKeeper();
        tellFour(x, offset);
        tellFour(y, offset);
        long rest = offset;
        long stamp = x.clock();
        Check.same("REST at first", x.about(REST), rest);
        for (int i = 0; i < 700; i++) {
            long g = rest / 64 != 0 ? rest / 64 : rest;
            rest -= g;
            stamp += SECOND + g;
            if (i < 120) {
                x.pass(1);
                Check.same("REST after " + i, x.about(REST), rest);
                Check.same("clock after " + i, x.clock(), stamp);
            }
        }
        y.pass(500);
        y.pass(200);
        Check.same("REST after all", y.about(REST), rest);
        Check.same("clock after all", y.clock(), stamp);
    }

    private static void driftAndRateCount() {
        TimeKeeper x = new TimeKeeper();
        tellFour(x, 0);
        x.pass(16);
        tell(x, 0, -4096 * 100);
        Check.same("RATE", x.about(RATE), -100);
        x.drift(77);
        long before = x.clock();
        x.pass(1);
        Check.same("a SECOND with DRIFT, RATE and REST", x.clock() - before, SECOND + 77 - 100 - 6400);
        x.pass(4096);
        Check.same("REST is spent", x.about(REST), 0);
        before = x.clock();
        x.pass(4096);
        Check.same("SECONDS with DRIFT and RATE", x.clock() - before, 4096 * (SECOND + 77 - 100));
    }

    private static void promise6Clock() {
        TimeKeeper x = new TimeKeeper();
        x.set(5);
        Check.same("clock", x.clock(), 5);
        x.pass(2);
        Check.same("clock", x.clock(), 5 + 2 * SECOND);
        Check.same("clock asked again", x.clock(), 5 + 2 * SECOND);
        x.answer(0, 1, 0, 0, 0, 1, 2, 4);
        Check.same("clock behind an answer", x.clock(), 12 + 2 * SECOND);
    }

    private static void promise7Set() {
        TimeKeeper x = new TimeKeeper();
        tellFour(x, 8192);
        x.drift(3);
        for (long stamp : new long[] {Long.MIN_VALUE, -1, 0, 7, Long.MAX_VALUE}) {
            x.set(stamp);
            Check.same("clock after set", x.clock(), stamp);
        }
        x.set(0);
        Check.same("set leaves UPTIME", x.pass(0), 3);
        Check.same("set leaves REST", x.about(REST), 8192);
        Check.same("set leaves the samples", x.peer(0, SAMPLES), 4);
        x.pass(1);
        Check.same("set leaves DRIFT", x.clock(), SECOND + 3 + 128);
    }

    private static void promise8Drift() {
        for (int d : new int[] {-2000000, -1, 0, 1, 2000000}) {
            TimeKeeper x = new TimeKeeper();
            x.drift(d);
            x.pass(10);
            Check.same("ten seconds of drift " + d, x.clock(), 10 * (SECOND + d));
        }
        TimeKeeper x = new TimeKeeper();
        x.drift(5);
        for (int d : new int[] {-2000001, 2000001, Integer.MIN_VALUE, Integer.MAX_VALUE}) {
            Check.refused("drift(" + d + ")", ARGUMENT, () -> x.drift(d));
        }
        x.pass(1);
        Check.same("a refused drift changes nothing", x.clock(), SECOND + 5);
        x.drift(-5);
        x.pass(1);
        Check.same("the latest drift counts", x.clock(), 2 * SECOND);
    }

    private static void promise9Request() {
        TimeKeeper x = new TimeKeeper();
        Check.same("a request at stamp 0", x.request(3), 1);
        Check.same("SENT of it", x.peer(3, SENT), 1);
        x.set(0x8102030405060708L);
        Check.same("a request", x.request(3), 0x8102030405060708L);
        Check.same("SENT of the latest", x.peer(3, SENT), 0x8102030405060708L);
        Check.same("SENT of another peer", x.peer(2, SENT), 0);
        int[] due = new int[48];
        due[0] = 35;
        due[2] = 6;
        due[3] = 238;
        due[40] = 0x81;
        for (int i = 1; i < 8; i++) {
            due[40 + i] = i + 1;
        }
        outIs("a request", x, due);
        for (int peer : new int[] {-1, 8, Integer.MIN_VALUE, Integer.MAX_VALUE}) {
            Check.refused("request(" + peer + ")", INDEX, () -> x.request(peer));
        }
        for (int i = 0; i < 9; i++) {
            x.request(7);
            Check.same("REACH without replies", x.peer(7, REACH), 0);
        }
        reachOfEightBits();
        requestTellsPoll();
    }

    private static void reachOfEightBits() {
        TimeKeeper x = new TimeKeeper();
        x.set(9);
        tell(x, 0, 0);
        for (int due = 1; due <= 128; due *= 2) {
            Check.same("REACH", x.peer(0, REACH), due);
            x.request(0);
        }
        Check.same("REACH when the bit fell out", x.peer(0, REACH), 0);
        for (int i = 0; i < 9; i++) {
            tell(x, 0, i);
        }
        Check.same("REACH of nine replies", x.peer(0, REACH), 255);
        x.request(0);
        Check.same("REACH of one that is awaited", x.peer(0, REACH), 254);
    }

    private static void requestTellsPoll() {
        TimeKeeper x = new TimeKeeper();
        tellFour(x, 0);
        for (int i = 0; i < 5; i++) {
            x.pass(1);
            tell(x, 0, 0);
        }
        Check.same("POLL", x.about(POLL), 7);
        x.request(5);
        Check.same("POLL in a request", x.out(2), 7);
        Check.same("our STRATUM is not told in a request", x.out(1), 0);
    }

    /** A reply that passes all tests stands on the TAPE: asked at stamp 1000, heard at 1000 + 65536. */
    private static TimeKeeper withGoodReply() {
        TimeKeeper x = new TimeKeeper();
        x.set(1000);
        x.request(0);
        x.answer(0, 1, 0, 0, 500, 32768, 0, 32768);
        return x;
    }

    private static void refuses(String what, TimeKeeper x, int due) {
        long sent = x.peer(0, SENT);
        long last = x.peer(0, LAST);
        long reach = x.peer(0, REACH);
        long stratum = x.peer(0, STRATUM);
        long samples = x.peer(0, SAMPLES);
        Check.same(what, x.hear(0), due);
        Check.same(what + " changes nothing", x.peer(0, SENT), sent);
        Check.same(what + " changes nothing", x.peer(0, LAST), last);
        Check.same(what + " changes nothing", x.peer(0, REACH), reach);
        Check.same(what + " changes nothing", x.peer(0, STRATUM), stratum);
        Check.same(what + " changes nothing", x.peer(0, SAMPLES), samples);
    }

    private static void promise10HearTests() {
        TimeKeeper x = withGoodReply();
        for (int peer : new int[] {-1, 8, Integer.MIN_VALUE, Integer.MAX_VALUE}) {
            Check.refused("hear(" + peer + ")", INDEX, () -> x.hear(peer));
        }
        x.type(0, 1);
        refuses("a reply of 49 bytes", x, 1);
        x.wipe();
        for (int i = 0; i < 5; i++) {
            x.type(36, 8);
        }
        x.type(0, 7);
        refuses("a reply of 47 bytes", x, 1);
        testsOfFirstByte();
        testsOfStamps();
        testsOfWhatIsTold();
        testOfOffset();
    }

    private static void testsOfFirstByte() {
        for (int leap = 0; leap < 4; leap++) {
            for (int version = 0; version < 8; version++) {
                for (int mode = 0; mode < 8; mode++) {
                    TimeKeeper x = withGoodReply();
                    x.put(0, 64 * leap + 8 * version + mode);
                    boolean known = version >= 1 && version <= 4 && mode == 4;
                    int due = !known ? 2 : leap == 3 ? 6 : 0;
                    Check.same("leap " + leap + ", version " + version + ", mode " + mode, x.hear(0), due);
                }
            }
        }
    }

    private static void testsOfStamps() {
        TimeKeeper x = withGoodReply();
        Check.same("hear", x.hear(0), 0);
        refuses("the same reply again", x, 3);
        x.request(0);
        refuses("the same reply to a new request", x, 3);
        putNumber(x, 40, 8, 77);
        refuses("a reply to an earlier request", x, 4);
        putNumber(x, 40, 8, 0);
        refuses("transmit stamp 0 and a wrong origin", x, 4);

        TimeKeeper y = withGoodReply();
        refusesFromOther(y);
        putNumber(y, 40, 8, 0);
        refuses("transmit stamp 0, which LAST is too", y, 5);
        putNumber(y, 40, 8, 34268);
        putNumber(y, 32, 8, 0);
        refuses("receive stamp 0", y, 5);
        y.put(1, 0);
        refuses("receive stamp 0 and stratum 0", y, 5);
        y.put(31, 0);
        refuses("a wrong origin, receive stamp 0, stratum 0", y, 4);

        TimeKeeper unasked = new TimeKeeper();
        unasked.answer(0, 1, 0, 0, 500, 1, 0, 1);
        refuses("a reply that nobody asked for, of origin 0", unasked, 4);
    }

    private static void refusesFromOther(TimeKeeper x) {
        Check.same("a reply of a peer that was not asked", x.hear(1), 4);
        x.set(2000);
        x.request(1);
        Check.same("a reply to another peer's request", x.hear(1), 4);
        x.set(1000 + 65536);
    }

    private static void testsOfWhatIsTold() {
        int[] strata = {0, 1, 15, 16, 255};
        for (int stratum : strata) {
            TimeKeeper x = withGoodReply();
            x.put(1, stratum);
            Check.same("stratum " + stratum, x.hear(0), stratum >= 1 && stratum <= 15 ? 0 : 6);
        }
        long[][] roots = {
            {0, 16 << 16, 0}, {1, 16 << 16, 7}, {0, (16 << 16) + 1, 7}, {32 << 16, 0, 0}, {(32 << 16) + 1, 0, 7},
            {1, (16 << 16) - 1, 0}, {2, (16 << 16) - 1, 0}, {3, (16 << 16) - 1, 7}, {0xFFFFFFFFL, 0, 7},
            {0, 0xFFFFFFFFL, 7}, {0xFFFFFFFFL, 0xFFFFFFFFL, 7}, {0x80000000L, 0x80000000L, 7},
        };
        for (long[] root : roots) {
            TimeKeeper x = withGoodReply();
            putNumber(x, 4, 4, root[0]);
            putNumber(x, 8, 4, root[1]);
            Check.same("root delay " + root[0] + ", dispersion " + root[1], x.hear(0), root[2]);
        }
        TimeKeeper both = withGoodReply();
        both.put(1, 16);
        both.put(4, 255);
        refuses("stratum 16 and a great root delay", both, 6);
    }

    private static void testOfOffset() {
        long bound = 1L << 40;
        long[] offsets = {bound - 1, bound, -bound + 1, -bound, Long.MAX_VALUE / 4, -(1L << 61)};
        for (long offset : offsets) {
            TimeKeeper x = new TimeKeeper();
            x.set(1L << 50);
            x.request(0);
            x.answer(0, 1, 0, 0, offset, 8192, 0, 8192);
            Check.same("offset " + offset, x.hear(0), Math.abs(offset) < bound ? 0 : 8);
        }
        // FLOOR: half a part below -2^40 + 1 is -2^40.
        TimeKeeper x = new TimeKeeper();
        x.set(1L << 50);
        x.request(0);
        x.answer(0, 1, 0, 0, -bound + 1, 8192, 0, 8193);
        refuses("an offset that FLOOR takes to the bound", x, 8);
    }

    private static void promise10HearTaken() {
        TimeKeeper x = withGoodReply();
        x.put(1, 7);
        putNumber(x, 4, 4, 10);
        putNumber(x, 8, 4, 20);
        // What does not count: poll, precision and bytes 12 .. 23.
        x.put(2, 99);
        x.put(3, 99);
        for (int i = 12; i < 24; i++) {
            x.put(i, 200);
        }
        Check.same("hear", x.hear(0), 0);
        Check.same("SENT is 0", x.peer(0, SENT), 0);
        Check.same("LAST", x.peer(0, LAST), 34268);
        Check.same("OFFSET", x.peer(0, OFFSET), 500);
        Check.same("DELAY", x.peer(0, DELAY), 65536);
        Check.same("REACH", x.peer(0, REACH), 1);
        Check.same("STRATUM", x.peer(0, STRATUM), 7);
        Check.same("samples", x.peer(0, SAMPLES), 1);
        long dispersion = 16385 / 2 + MOST / 2 - MOST / 256;
        Check.same("DISPERSION", x.peer(0, DISPERSION), dispersion);
        Check.same("DISTANCE", x.peer(0, DISTANCE), (10 * 65536 + 65536) / 2 + 20 * 65536 + dispersion + 16384);
        Check.same("hear leaves the clock", x.clock(), 1000 + 65536);
        Check.same("OUT is still the request", x.out(0), 35);

        LongBinaryOperator offset = (out, back) -> {
            TimeKeeper y = new TimeKeeper();
            y.set(1L << 50);
            y.request(0);
            y.answer(0, 1, 0, 0, 0, out, 12345, back);
            Check.same("hear", y.hear(0), 0);
            Check.same("DELAY leaves what the server held", y.peer(0, DELAY), Math.max(16384, out + back));
            return y.peer(0, OFFSET);
        };
        Check.same("OFFSET by FLOOR", offset.applyAsLong(0, 20001), -10001);
        Check.same("OFFSET by FLOOR", offset.applyAsLong(20001, 0), 10000);
    }

    private static void promise10HearRepliesAreKept() {
        TimeKeeper x = new TimeKeeper();
        x.set(5000);
        tell(x, 0, 3, 0, 8192);
        Check.same("the earlier STRATUM", x.peer(0, STRATUM), 3);
        tell(x, 0, 2, 0, 8192);
        Check.same("the later STRATUM", x.peer(0, STRATUM), 2);
        Check.same("LAST is the later one", x.peer(0, LAST), 5000 + 16384 + 8192);
        // A reply that was taken before, but not as the latest: only LAST is known.
        x.request(0);
        x.answer(0, 1, 0, 0, -16384 - 16384 + 0, 8192, 0, 8192);
        Check.same("a transmit stamp of long ago", x.hear(0), 0);
    }

    private static void promise10HearWraps() {
        TimeKeeper x = new TimeKeeper();
        x.set(Long.MAX_VALUE - 10);
        x.request(0);
        x.answer(0, 1, 0, 0, 100, 20000, 5, 20000);
        Check.same("hear across the wrap", x.hear(0), 0);
        Check.same("OFFSET across the wrap", x.peer(0, OFFSET), 100);
        Check.same("DELAY across the wrap", x.peer(0, DELAY), 40000);

        TimeKeeper far = new TimeKeeper();
        far.set(1);
        far.request(0);
        far.set(1L << 62);
        // (receive - SENT) + (transmit - t) wraps from -2^63 - .. to near 0 here.
        typePacket(far, 36, 1, 0, new int[2], new long[] {1, (1L << 63) + 1, (1L << 63) + (1L << 62) + 200});
        Check.same("a sum that wraps", far.hear(0), 0);
        Check.same("OFFSET of a sum that wraps", far.peer(0, OFFSET), 100);
        Check.same("DELAY below the least", far.peer(0, DELAY), 16384);

        long[][] ways = {{8191, 8192, 16384}, {8192, 8193, 16385}, {1L << 35, 1L << 35, MOST}, {1L << 35, (1L << 35) + 1, MOST},
            {(1L << 35) - 1, 1L << 35, MOST - 1}};
        for (long[] way : ways) {
            TimeKeeper y = new TimeKeeper();
            y.set(1);
            y.request(0);
            y.answer(0, 1, 0, 0, 0, way[0], 9, way[1]);
            Check.same("hear", y.hear(0), 0);
            Check.same("DELAY of " + way[0] + " + " + way[1], y.peer(0, DELAY), way[2]);
            Check.same("DISPERSION with DELAY / 65536", y.sample(0, 0, 2), 16384 + way[2] / 65536);
        }
    }

    private static void promise11Serve() {
        for (int first = 0; first < 256; first++) {
            TimeKeeper x = new TimeKeeper();
            typePacket(x, first, 9, 17, new int[] {5, 6}, new long[] {1, 2, 0x0102030405060708L});
            x.set(0x1112131415161718L);
            int version = first >> 3 & 7;
            boolean due = version >= 1 && version <= 4 && (first & 7) == 3;
            Check.holds("serve of byte 0 = " + first, x.serve() == due);
            if (due) {
                outIs("our reply", x, 192 + 8 * version + 4, 0, 17, 238, 0, 0, 0, 0, 0, 0, 0, 0,
                    0, 0, 0, 0, 0, 0, 0, 0, 0, 0, 0, 0, 1, 2, 3, 4, 5, 6, 7, 8,
                    0x11, 0x12, 0x13, 0x14, 0x15, 0x16, 0x17, 0x18, 0x11, 0x12, 0x13, 0x14, 0x15, 0x16, 0x17, 0x18);
            } else {
                Check.same("OUT of a request that is not served", x.size(), 0);
            }
        }
        TimeKeeper x = new TimeKeeper();
        x.request(0);
        x.turn();
        x.type(0, 1);
        Check.holds("a request of 49 bytes is not served", !x.serve());
        Check.same("OUT stays", x.out(0), 35);
        for (int stratum : new int[] {1, 14, 15}) {
            TimeKeeper y = told(new int[] {stratum}, new long[] {0});
            y.request(1);
            y.turn();
            Check.holds("serve", y.serve());
            Check.same("THE STRATUM", y.about(2), stratum + 1);
            Check.same("byte 0 of our reply", y.out(0), stratum == 15 ? 192 + 36 : 36);
            Check.same("stratum of our reply", y.out(1), stratum == 15 ? 0 : stratum + 1);
        }
    }

    /** What OUT and the TAPE held before does not shine through. */
    private static void nothingIsLeftOfOldPackets() {
        TimeKeeper x = told(new int[] {4}, new long[] {0});
        typePacket(x, 35, 255, 255, new int[] {-1, -1}, new long[] {-1, -1, -1});
        for (int i = 12; i < 24; i++) {
            x.put(i, 255);
        }
        x.serve();
        x.request(1);
        for (int i = 0; i < 40; i++) {
            Check.same("byte " + i + " of a request behind a reply", x.out(i), i == 0 ? 35 : i == 2 ? x.about(POLL) : i == 3 ? 238 : 0);
        }
        x.answer(1, 1, 0, 0, 0, 8192, 0, 8192);
        Check.same("an answer over another packet", x.hear(1), 0);
        Check.same("its root numbers", x.peer(1, DISTANCE), 8192 + x.peer(1, DISPERSION) + 16384);
        x.put(0, 35);
        x.serve();
        Check.same("its poll", x.out(2), 0);
    }

    private static void promise12Turn() {
        TimeKeeper x = new TimeKeeper();
        x.type(1, 5);
        x.turn();
        Check.same("the TAPE becomes an empty OUT", x.type(1, 1), 1);
        x.set(77);
        x.request(0);
        x.turn();
        Check.same("the TAPE has as many bytes as OUT", x.type(0, 1), 49);
        x.turn();
        Check.same("the TAPE becomes the request", servedOrigin(x), 77);
        x.turn();
        Check.same("the TAPE becomes our reply, which has no peer's leap", x.hear(0), 6);
        Check.same("OUT stays", x.size(), 48);
        x.put(0, 1);
        Check.same("OUT stays another row", x.out(0), 192 + 36);

        TimeKeeper server = told(new int[] {1}, new long[] {0});
        server.set(1L << 40);
        server.request(1);
        server.turn();
        server.serve();
        server.turn();
        Check.same("a peer that is we ourselves", server.hear(1), 0);
        Check.same("its STRATUM", server.peer(1, STRATUM), 2);
    }

    private static void promise13Answer() {
        TimeKeeper x = new TimeKeeper();
        x.set(1L << 40);
        x.request(2);
        long clock = (1L << 40) + (1L << 34) + 0x100 + (1L << 35);
        Check.same("answer", x.answer(2, 15, 0x00010203, 0x00050607, 0x55, 1L << 34, 0x100, 1L << 35), clock);
        Check.same("clock", x.clock(), clock);
        Check.same("no SECOND passes", x.pass(0), 0);
        Check.same("SENT stays", x.peer(2, SENT), 1L << 40);
        Check.same("REACH stays", x.peer(2, REACH), 0);
        Check.same("hear", x.hear(2), 0);
        Check.same("the transmit stamp", x.peer(2, LAST), (1L << 40) + (1L << 34) + 0x155);
        Check.same("the receive stamp", x.peer(2, OFFSET), 0x55 - (1L << 33));
        Check.same("what was held is not of the DELAY", x.peer(2, DELAY), 3L << 34);
        Check.same("the stratum", x.peer(2, STRATUM), 15);
        Check.same("the root numbers", x.peer(2, DISTANCE),
            (0x00010203 * 65536L + (3L << 34)) / 2 + 0x00050607 * 65536L + x.peer(2, DISPERSION) + 16384);
        x.put(0, 35);
        Check.same("the transmit stamp is on the TAPE", servedOrigin(x), (1L << 40) + (1L << 34) + 0x155);
        Check.same("the poll is 0", x.out(2), 0);
        Check.same("the TAPE has 48 bytes", x.type(0, 1), 49);
        answersThatAreRefused(x);
        Check.same("a stratum that no test passes", answered(255, 0, 0), 6);
        Check.same("a root delay that no test passes", answered(1, Integer.MAX_VALUE, 0), 7);
        Check.same("a root dispersion that no test passes", answered(1, 0, Integer.MAX_VALUE), 7);
        answersToNothing();
    }

    private static int answered(int stratum, int rootDelay, int rootDispersion) {
        TimeKeeper x = new TimeKeeper();
        x.type(-1, 8);
        x.request(0);
        x.answer(0, stratum, rootDelay, rootDispersion, 0, 8192, 0, 8192);
        return x.hear(0);
    }

    private static void answersToNothing() {
        TimeKeeper x = new TimeKeeper();
        x.set(9);
        x.type(-1, 8);
        Check.same("answer to nothing", x.answer(0, 1, 0, 0, 5, 1, 0, 0), 10);
        Check.same("hear of it", x.hear(0), 4);
        x.set(0);
        x.request(0);
        Check.same("its origin is not the SENT that came later", x.hear(0), 4);
        x.put(31, 1);
        Check.same("its origin was 0", x.hear(0), 0);
        Check.same("its stamps", x.peer(0, LAST), 6);
        TimeKeeper zero = new TimeKeeper();
        zero.request(0);
        zero.answer(0, 1, 0, 0, -2, 1, 7, 0);
        Check.same("a receive stamp of 0", zero.hear(0), 5);
        TimeKeeper wrapping = new TimeKeeper();
        wrapping.set(Long.MAX_VALUE);
        Check.same("answer across the wrap", wrapping.answer(0, 0, 0, 0, 0, 1, 0, 1), Long.MIN_VALUE + 1);
    }

    private static void answersThatAreRefused(TimeKeeper x) {
        long most = 1L << 40;
        long clock = x.clock();
        for (int peer : new int[] {-1, 8, Integer.MIN_VALUE, Integer.MAX_VALUE}) {
            Check.refused("answer of peer " + peer, INDEX, () -> x.answer(peer, 1, 0, 0, 0, 0, 0, 0));
            Check.refused("answer of peer " + peer + " and more", INDEX, () -> x.answer(peer, -1, -1, -1, 0, -1, -1, -1));
        }
        for (int stratum : new int[] {-1, 256, Integer.MIN_VALUE, Integer.MAX_VALUE}) {
            Check.refused("answer of stratum " + stratum, ARGUMENT, () -> x.answer(0, stratum, 0, 0, 0, 0, 0, 0));
        }
        for (int root : new int[] {-1, Integer.MIN_VALUE}) {
            Check.refused("answer of root delay " + root, ARGUMENT, () -> x.answer(0, 1, root, 0, 0, 0, 0, 0));
            Check.refused("answer of root dispersion " + root, ARGUMENT, () -> x.answer(0, 1, 0, root, 0, 0, 0, 0));
        }
        for (long way : new long[] {-1, most + 1, Long.MIN_VALUE, Long.MAX_VALUE}) {
            Check.refused("answer with out " + way, ARGUMENT, () -> x.answer(0, 1, 0, 0, 0, way, 0, 0));
            Check.refused("answer with held " + way, ARGUMENT, () -> x.answer(0, 1, 0, 0, 0, 0, way, 0));
            Check.refused("answer with back " + way, ARGUMENT, () -> x.answer(0, 1, 0, 0, 0, 0, 0, way));
        }
        Check.same("a refused answer leaves the clock", x.clock(), clock);
        Check.same("the greatest ways", x.answer(0, 0, Integer.MAX_VALUE, Integer.MAX_VALUE, Long.MIN_VALUE, most, most, most),
            clock + 3 * most);
    }

    private static void promise14Peer() {
        TimeKeeper x = new TimeKeeper();
        x.set(1L << 41);
        for (int peer : new int[] {-1, 8, Integer.MIN_VALUE, Integer.MAX_VALUE}) {
            Check.refused("peer " + peer, INDEX, () -> x.peer(peer, 0));
            Check.refused("peer " + peer + ", another what", INDEX, () -> x.peer(peer, 10));
        }
        for (int what : new int[] {-1, 10, Integer.MIN_VALUE, Integer.MAX_VALUE}) {
            Check.refused("peer what " + what, ARGUMENT, () -> x.peer(0, what));
        }
        x.request(0);
        x.answer(0, 4, 3, 5, 4096, 16384, 0, 16384);
        x.hear(0);
        x.pass(10);
        long now = 16384 + 10 * 64424;
        long dispersion = now / 2 + MOST / 2 - MOST / 256;
        Check.same("OFFSET", x.peer(0, OFFSET), 4096);
        Check.same("DELAY", x.peer(0, DELAY), 32768);
        Check.same("DISPERSION", x.peer(0, DISPERSION), dispersion);
        Check.same("JITTER of one", x.peer(0, JITTER), 16384);
        Check.same("DISTANCE", x.peer(0, DISTANCE), (3 * 65536 + 32768) / 2 + 5 * 65536 + dispersion + 16384);
        Check.same("SENT", x.peer(0, SENT), 0);
        Check.same("LAST", x.peer(0, LAST), (1L << 41) + 4096 + 16384);
        Check.same("REACH", x.peer(0, REACH), 1);
        Check.same("STRATUM", x.peer(0, STRATUM), 4);
        tell(x, 0, 1, -4096, 16384);
        Check.same("of the same DELAY the latest is FIRST", x.peer(0, OFFSET), -4096);
        Check.same("ROOT DELAY and ROOT DISPERSION as told last", x.peer(0, DISTANCE),
            16384 + x.peer(0, DISPERSION) + x.peer(0, JITTER));
        Check.same("DISPERSION of two", x.peer(0, DISPERSION), 8192 + now / 4 + MOST / 4 - MOST / 256);
        for (int i = 0; i < 300; i++) {
            x.pass(4096);
        }
        Check.same("DISPERSION of two that are old", x.peer(0, DISPERSION), MOST - MOST / 256);
    }

    private static void promise14Jitter() {
        TimeKeeper x = new TimeKeeper();
        x.set(1L << 41);
        tell(x, 0, 1, 10 * 4096, 8192);
        tell(x, 0, 1, 0, 8193);
        // The FIRST one is the earlier; FLOOR(-40960 / 4096) = -10.
        Check.same("JITTER of two", x.peer(0, JITTER), 10 * 4096);
        tell(x, 0, 1, 10 * 4096 + 4095, 8194);
        // Squares 100 and 0: ROOT(50) = 7.
        Check.same("JITTER of three", x.peer(0, JITTER), 7 * 4096);
        tell(x, 0, 1, 10 * 4096 - 1, 8195);
        // FLOOR(-1 / 4096) = -1; squares 100, 0, 1: ROOT(33) = 5.
        Check.same("JITTER of four", x.peer(0, JITTER), 5 * 4096);

        TimeKeeper least = new TimeKeeper();
        least.set(1L << 41);
        tell(least, 0, 1, 0, 8192);
        tell(least, 0, 1, -3 * 4096, 8193);
        Check.same("JITTER below the least", least.peer(0, JITTER), 16384);
        TimeKeeper greatest = new TimeKeeper();
        greatest.set(1L << 41);
        tell(greatest, 0, 1, -(1L << 40) + 1, 8192);
        tell(greatest, 0, 1, (1L << 40) - 1, 8193);
        Check.same("JITTER of the farthest", greatest.peer(0, JITTER), ((1L << 29) - 1) * 4096);
        TimeKeeper other = new TimeKeeper();
        other.set(1L << 41);
        tell(other, 0, 1, (1L << 40) - 1, 8192);
        for (int i = 0; i < 7; i++) {
            tell(other, 0, 1, -(1L << 40) + 1, 8193 + i);
        }
        Check.same("JITTER of the farthest eight", other.peer(0, JITTER), (1L << 29) * 4096);
    }

    private static void promise15Sample() {
        TimeKeeper x = new TimeKeeper();
        x.set(1L << 41);
        long[] ways = {9000, 8500, 9000, 8192, 8500};
        for (int i = 0; i < ways.length; i++) {
            tell(x, 3, 1, 100 + i, ways[i]);
            x.pass(1);
        }
        int[] due = {3, 4, 1, 2, 0};
        for (int place = 0; place < due.length; place++) {
            int i = due[place];
            Check.same("OFFSET at " + place, x.sample(3, place, 0), 100 + i);
            Check.same("DELAY at " + place, x.sample(3, place, 1), 2 * ways[i]);
            Check.same("dispersion NOW at " + place, x.sample(3, place, 2), 16384 + 64424 * (5 - i));
        }
        for (int peer : new int[] {-1, 8, 0, Integer.MIN_VALUE, Integer.MAX_VALUE}) {
            Check.refused("sample of peer " + peer, INDEX, () -> x.sample(peer, 0, 0));
            Check.refused("sample of peer " + peer + ", another what", INDEX, () -> x.sample(peer, 0, 3));
        }
        for (int i : new int[] {-1, 5, 8, Integer.MIN_VALUE, Integer.MAX_VALUE}) {
            Check.refused("sample at " + i, INDEX, () -> x.sample(3, i, 0));
            Check.refused("sample at " + i + ", another what", INDEX, () -> x.sample(3, i, -1));
        }
        for (int what : new int[] {-1, 3, Integer.MIN_VALUE, Integer.MAX_VALUE}) {
            Check.refused("sample what " + what, ARGUMENT, () -> x.sample(3, 0, what));
        }
        for (int i = 0; i < 261; i++) {
            x.pass(4096);
        }
        Check.same("a dispersion just below the most", x.sample(3, 0, 2), Math.min(MOST, 16384 + 64424L * (261 * 4096 + 2)));
        x.pass(4096);
        Check.same("a dispersion of the most", x.sample(3, 0, 2), MOST);
    }

    private static void promise15SamplesGo() {
        TimeKeeper x = new TimeKeeper();
        x.set(1L << 41);
        // The oldest has the least delay, and goes all the same.
        for (int i = 0; i < 8; i++) {
            tell(x, 0, 1, i, 9000 + i);
        }
        Check.same("eight samples", x.peer(0, SAMPLES), 8);
        Check.same("the FIRST", x.sample(0, 0, 0), 0);
        tell(x, 0, 1, 8, 9008);
        Check.same("still eight samples", x.peer(0, SAMPLES), 8);
        for (int place = 0; place < 8; place++) {
            Check.same("OFFSET at " + place, x.sample(0, place, 0), place + 1);
        }
        tell(x, 0, 1, 9, 8999);
        Check.same("a new FIRST", x.sample(0, 0, 0), 9);
        Check.same("the next", x.sample(0, 1, 0), 2);
        Check.refused("a ninth sample", INDEX, () -> x.sample(0, 8, 0));
    }

    private static void promise16ChosenIntervals() {
        long far = 1L << 34;
        int[] ones = {1, 1, 1, 1, 1};
        TimeKeeper x = told(ones, new long[] {0, 0, far});
        chosenIs("two against one", x, 7, 3, 3);
        long d = x.peer(0, DISTANCE);
        Check.same("L", x.about(3), -d);
        Check.same("H", x.about(4), d);
        for (int what : new int[] {-1, 3, Integer.MIN_VALUE, Integer.MAX_VALUE}) {
            Check.refused("chosen what " + what, ARGUMENT, () -> x.chosen(what));
        }
        chosenIs("one against one", told(ones, new long[] {0, far}), 3, 0, 0);
        chosenIs("two against two", told(ones, new long[] {0, far, far, 0}), 15, 0, 0);
        chosenIs("three against two", told(ones, new long[] {0, far, far, 0, 0}), 31, 25, 25);
        // Ends lie in intervals: at twice the distance they still meet; both offsets are then outside L .. H.
        chosenIs("two that meet in a point", told(ones, new long[] {0, 2 * d}), 3, 0, 0);
        TimeKeeper near = told(ones, new long[] {0, d - 4096});
        chosenIs("two that overlap by half", near, 3, 3, 3);
        Check.same("L of two", near.about(3), -4096);
        Check.same("H of two", near.about(4), d);
        TimeKeeper edge = told(ones, new long[] {0, d});
        chosenIs("two at the edge", edge, 3, 3, 3);
        Check.same("L at the edge", edge.about(3), 0);
        Check.same("H at the edge", edge.about(4), d);
        chosenIs("two beyond the edge", told(ones, new long[] {0, d + 1}), 3, 0, 0);
    }

    private static void promise16ChosenRow() {
        int[] ones = {1, 1, 1, 1, 1, 1, 1, 1};
        int wide = 1000;
        chosenIs("one that is apart", told(ones, new long[] {0, 0, 0, 100 * 4096}, wide), 15, 15, 7);
        chosenIs("one at the least JITTER", told(ones, new long[] {0, 16384, 0, 0}, wide), 15, 15, 13);
        chosenIs("one below the least JITTER", told(ones, new long[] {0, 12288, 0, 0}, wide), 15, 15, 15);
        chosenIs("three, one apart", told(ones, new long[] {0, 100 * 4096, 0}, wide), 7, 7, 7);
        long[] pairs = {0, 0, 409600, 409600};
        chosenIs("of the same the last of the row", told(new int[] {4, 3, 2, 1}, pairs, wide), 15, 15, 14);
        chosenIs("of the same the last by number", told(ones, pairs, wide), 15, 15, 7);
        TimeKeeper all = told(ones, new long[] {0, 0, 0, 0, 40960, 81920, 163840, 327680}, wide);
        chosenIs("eight", all, 255, 255, 15);
        TimeKeeper strata = told(new int[] {2, 2, 1, 3}, new long[] {0, 0, 0, 409600}, wide);
        chosenIs("strata", strata, 15, 15, 7);
        Check.same("the first one is of the least stratum", strata.about(2), 2);
        rowClosesUp();
    }

    /** Two go, the first of the row among them: what is left must still be told by its own numbers. */
    private static void rowClosesUp() {
        long[] offsets = {409600, 8192, 0, -819200, 4096};
        int[] strata = {1, 3, 4, 2, 5};
        int[] roots = {1000, 1001, 1300, 1600, 2000};
        TimeKeeper x = new TimeKeeper();
        for (int i = 0; i < 8; i++) {
            x.pass(1);
            for (int peer = 0; peer < 5; peer++) {
                long jump = peer == 1 && i < 7 ? 40960 : 0;
                tell(x, peer, strata[peer], roots[peer], offsets[peer] + jump, 8192);
            }
        }
        chosenIs("five, two apart", x, 31, 31, 22);
        Check.same("THE STRATUM of those left", x.about(2), 4);
        Check.same("THE JITTER is that of the first one left", x.about(1), 40960);
        long sum = 0;
        long weights = 0;
        for (int peer : new int[] {1, 2, 4}) {
            long w = (1L << 46) / x.peer(peer, DISTANCE);
            sum += offsets[peer] / 4096 * w;
            weights += w;
        }
        Check.same("THE OFFSET of those left", x.about(0), Math.floorDiv(sum, weights) * 4096);
    }

    private static void promise16WhenUpdatesCome() {
        TimeKeeper x = new TimeKeeper();
        tellFour(x, 0);
        chosenIs("four tellings", x, 1, 1, 1);
        Check.same("led once", x.about(LED), 1);
        tell(x, 0, 0);
        Check.same("a FIRST one of the same second is not younger", x.about(LED), 1);
        x.pass(1);
        tell(x, 0, 1, 0, 8193);
        Check.same("a later sample that is not FIRST", x.about(LED), 1);
        tell(x, 0, 1, 0, 8192);
        Check.same("a younger FIRST", x.about(LED), 2);
        tell(x, 0, 1, 0, 8192);
        Check.same("another one of the same second", x.about(LED), 2);
        tell(x, 1, 0);
        Check.same("the first telling of another peer", x.about(LED), 3);
        chosenIs("candidates have enough samples", x, 1, 1, 1);
        // The peers that were not heard were not looked at.
        x.pass(1);
        tell(x, 1, 0);
        Check.same("an UPDATE behind peer 1", x.about(LED), 4);
        tell(x, 0, 0);
        Check.same("an UPDATE behind peer 0", x.about(LED), 5);

        TimeKeeper early = new TimeKeeper();
        for (int i = 0; i < 4; i++) {
            tell(early, 0, 0);
        }
        chosenIs("four tellings in second 0, of which the first alone brought an UPDATE", early, 0, 0, 0);
        tell(early, 1, 0);
        chosenIs("an UPDATE in second 0 behind a peer that none looked at", early, 1, 1, 1);

        TimeKeeper late = new TimeKeeper();
        tellFour(late, 0);
        for (int i = 0; i < 8; i++) {
            late.request(0);
        }
        late.pass(1);
        tell(late, 1, 0);
        chosenIs("a peer of REACH 0", late, 0, 0, 0);
        Check.same("what was told before stays", late.about(2), 2);
        Check.same("led no more", late.about(LED), 1);
    }

    /** Root numbers and the way take DISTANCE to its bound, and to one below it. */
    private static void promise16Candidates() {
        for (int less = 0; less < 2; less++) {
            TimeKeeper x = new TimeKeeper();
            x.set(1);
            for (int i = 0; i < 4; i++) {
                x.pass(i > 0 ? 1 : 0);
                x.request(0);
                x.answer(0, 1, 1, 36862, 0, 22269 - less, 0, 22269 - less);
                x.hear(0);
            }
            Check.same("DISTANCE", x.peer(0, DISTANCE), 6442450944L - less);
            chosenIs("a DISTANCE near its bound", x, less, less, less);
        }
    }

    private static void promise17About() {
        TimeKeeper x = new TimeKeeper();
        for (int what : new int[] {-1, 11, Integer.MIN_VALUE, Integer.MAX_VALUE}) {
            Check.refused("about what " + what, ARGUMENT, () -> x.about(what));
        }
        for (int i = 0; i < 3; i++) {
            tell(x, 0, 5, 10000, 8192);
            x.pass(1);
        }
        chosenIs("an UPDATE without candidates", x, 0, 0, 0);
        Check.refused("about without survivors", STATE, () -> x.about(0));
        Check.refused("about without survivors", STATE, () -> x.about(4));
        tell(x, 0, 5, 10000, 8192);
        Check.same("DISPERSION of four", x.peer(0, DISPERSION), DISPERSION_OF_FOUR);
        Check.same("DISTANCE of four", x.peer(0, DISTANCE), DISTANCE_OF_FOUR);
        long[] due = {8192, 16384, 6, 10000 - DISTANCE_OF_FOUR, 10000 + DISTANCE_OF_FOUR, 0, 8192, 6, 6, 0, 1};
        for (int what = 0; what < due.length; what++) {
            Check.same("about(" + what + ")", x.about(what), due[what]);
        }
        TimeKeeper below = new TimeKeeper();
        tellFour(below, -1);
        Check.same("THE OFFSET by FLOOR", below.about(0), -4096);
        Check.same("REST becomes it", below.about(REST), -4096);
    }

    private static void promise17MeanOffset() {
        TimeKeeper x = new TimeKeeper();
        long[] offsets = {4096 * 1000 + 17, -4096 * 5000 - 1, 4096 * 3};
        long[] ways = {8192, 1L << 27, 1L << 29};
        int[] strata = {3, 2, 2};
        for (int i = 0; i < 8; i++) {
            x.pass(1);
            for (int peer = 0; peer < 3; peer++) {
                tell(x, peer, strata[peer], offsets[peer], ways[peer]);
            }
        }
        chosenIs("three", x, 7, 7, 7);
        long sum = 0;
        long weights = 0;
        for (int peer = 0; peer < 3; peer++) {
            long w = (1L << 46) / x.peer(peer, DISTANCE);
            sum += Math.floorDiv(offsets[peer], 4096L) * w;
            weights += w;
        }
        long mean = Math.floorDiv(sum, weights) * 4096;
        Check.same("THE OFFSET", x.about(0), mean);
        long squares = 0;
        for (long offset : offsets) {
            squares += Math.floorDiv(offset - mean, 4096L) * Math.floorDiv(offset - mean, 4096L);
        }
        Check.same("THE JITTER", x.about(1), 4096 * (long) Math.floor(Math.sqrt(squares / 3)));
        Check.same("THE STRATUM is that of the least and 1", x.about(2), 3);
    }

    private static void promise17Rate() {
        // FLOOR(o * u / 2^16), u from 1 s to more than 1024 s.
        long[][] cases = {{4096, 10, 0}, {-4096, 10, -1}, {4096, 16, 1}, {-4096, 16, -1}, {4096, 1024, 64}, {4096, 1025, 64},
            {4096, 4000, 64}, {-4096, 1023, -64}, {65536, 1023, 1023}, {65536, 1024, 1024}, {65536, 1025, 1024}, {131072000, 1000, 2000000}, {134217728, 1024, 2000000}, {-134217728, 1024, -2000000},
            {-131072000, 1000, -2000000}, {127795200, 1024, 1996800}};
        for (long[] c : cases) {
            TimeKeeper x = new TimeKeeper();
            tellFour(x, 0);
            x.pass((int) c[1]);
            tell(x, 0, c[0]);
            Check.same("RATE of " + c[0] + " after " + c[1], x.about(RATE), c[2]);
            Check.same("REST", x.about(REST), c[0]);
        }
        TimeKeeper x = new TimeKeeper();
        tellFour(x, 4096 * 100);
        Check.same("RATE when it was never led", x.about(RATE), 0);
        x.pass(16);
        tell(x, 0, 4096 * 100);
        Check.same("RATE", x.about(RATE), 100);
        Check.same("COUNT", x.about(COUNT), -24);
        x.pass(16);
        tell(x, 0, -4096 * 30);
        Check.same("RATE grows", x.about(RATE), 70);
    }

    private static void promise17PollAndCount() {
        TimeKeeper up = new TimeKeeper();
        tellFour(up, 0);
        int[][] upwards = {{1, 6, 6}, {5, 6, 30}, {6, 7, 0}, {7, 7, 7}, {10, 7, 28}, {11, 8, 0}, {15, 9, 0}, {19, 10, 0}, {22, 10, 30},
            {23, 10, 0}, {24, 10, 10}};
        pollsAre(up, 0, upwards);
        TimeKeeper down = new TimeKeeper();
        tellFour(down, 65536);
        int[][] downwards = {{1, 6, -12}, {2, 6, -24}, {3, 5, 0}, {6, 5, -30}, {7, 4, 0}, {10, 4, -24}, {11, 4, 0}, {12, 4, -8}};
        pollsAre(down, 65536, downwards);
        TimeKeeper minus = new TimeKeeper();
        tellFour(minus, -65536);
        pollsAre(minus, -65536, downwards);
        TimeKeeper below = new TimeKeeper();
        tellFour(below, 61440);
        pollsAre(below, 61440, upwards);

        TimeKeeper slow = new TimeKeeper();
        tellFour(slow, 0);
        led(slow, 0, 5);
        slow.pass(16);
        tell(slow, 0, 4096 * 4);
        Check.same("RATE at POLL 7", slow.about(RATE), 1);
        Check.same("COUNT at POLL 7", slow.about(COUNT), 7);
    }

    /** Rows of: how often it was led, POLL, COUNT. */
    private static void pollsAre(TimeKeeper x, long offset, int[][] rows) {
        for (int[] row : rows) {
            led(x, offset, (int) (row[0] - x.about(LED)));
            Check.same("POLL at lead " + row[0] + " of " + offset, x.about(POLL), row[1]);
            Check.same("COUNT at lead " + row[0] + " of " + offset, x.about(COUNT), row[2]);
        }
    }

    private static void promise17Steps() {
        TimeKeeper small = new TimeKeeper();
        tellFour(small, 549756927);
        Check.same("no step", small.about(STEPS), 0);
        Check.same("REST", small.about(REST), 549752832);

        for (int sign = -1; sign <= 1; sign += 2) {
            long big = sign * 549756928L;
            TimeKeeper x = new TimeKeeper();
            x.set(1L << 45);
            x.request(5);
            for (int i = 0; i < 3; i++) {
                tell(x, 0, big);
                x.pass(1);
            }
            x.request(0);
            x.answer(0, 1, 0, 0, big, 8192, 0, 8192);
            long before = x.clock();
            Check.same("hear", x.hear(0), 0);
            Check.same("a step", x.about(STEPS), 1);
            Check.same("it is led", x.about(LED), 1);
            Check.same("the clock grows by it", x.clock() - before, big);
            Check.same("COUNT stays", x.about(COUNT), 0);
            Check.same("REST is 0", x.about(REST), 0);
            Check.same("no samples", x.peer(0, SAMPLES), 0);
            Check.same("no request awaits a reply", x.peer(5, SENT), 0);
            Check.same("REACH stays", x.peer(0, REACH), 15);
            Check.same("STRATUM stays", x.peer(0, STRATUM), 1);
            Check.holds("LAST stays", x.peer(0, LAST) != 0);
            Check.same("THE OFFSET stays told", x.about(0), big);
            Check.refused("OFFSET of a peer whose samples went", STATE, () -> x.peer(0, OFFSET));
            chosenIs("behind a step", x, 1, 1, 1);
            stepsAgain(x, big);
        }
    }

    private static void promise17StepFromARate() {
        TimeKeeper x = new TimeKeeper();
        tellFour(x, 4096 * 10000);
        x.pass(16);
        tell(x, 0, 4096 * 10000);
        Check.same("RATE before the step", x.about(RATE), 10000);
        long count = x.about(COUNT);
        x.pass(300);
        Check.holds("REST before the step", x.about(REST) != 0);
        tell(x, 0, 1L << 30);
        Check.same("a step", x.about(STEPS), 1);
        Check.same("led by all", x.about(LED), 3);
        Check.same("RATE is 0", x.about(RATE), 0);
        Check.same("REST is 0", x.about(REST), 0);
        Check.same("COUNT stays", x.about(COUNT), count);
        long before = x.clock();
        x.pass(10);
        Check.same("the clock runs plainly", x.clock() - before, 10 * SECOND);
    }

    /** It was led at UPTIME 3. */
    private static void stepsAgain(TimeKeeper x, long big) {
        tell(x, 0, big);
        chosenIs("no UPDATE in the second of the step, though its sample went", x, 1, 1, 1);
        x.pass(1);
        tell(x, 0, big);
        chosenIs("an UPDATE without candidates", x, 0, 0, 0);
        led(x, big, 6);
        chosenIs("a step that waits", x, 1, 1, 1);
        Check.same("not stepped", x.about(STEPS), 1);
        Check.same("not led", x.about(LED), 1);
        Check.same("samples stay", x.peer(0, SAMPLES), 8);
        Check.same("UPTIME", x.pass(292), 302);
        tell(x, 0, big);
        Check.same("299 seconds after", x.about(STEPS), 1);
        x.pass(1);
        tell(x, 0, big);
        Check.same("300 seconds after", x.about(STEPS), 2);
        Check.same("led twice", x.about(LED), 2);
        led(x, 4096, 4);
        Check.same("led by little", x.about(LED), 3);
        Check.same("u counts from the step", x.about(RATE), 0);
    }

    private static void promise18And19SizeAndOut() {
        TimeKeeper x = new TimeKeeper();
        Check.same("size at first", x.size(), 0);
        Check.refused("out at first", INDEX, () -> x.out(0));
        x.type(0, 8);
        Check.same("size is not the TAPE's", x.size(), 0);
        x.request(0);
        Check.same("size of a request", x.size(), 48);
        Check.same("out(0)", x.out(0), 35);
        Check.same("out(47)", x.out(47), 1);
        for (int i : new int[] {-1, 48, Integer.MIN_VALUE, Integer.MAX_VALUE}) {
            Check.refused("out(" + i + ")", INDEX, () -> x.out(i));
        }
        x.turn();
        x.serve();
        Check.same("size of our reply", x.size(), 48);
        Check.same("out(3) of our reply", x.out(3), 238);
    }
}
