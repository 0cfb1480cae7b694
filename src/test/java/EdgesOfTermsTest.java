/** The document's 'Terms', sentence by sentence, where one names an edge: on both sides of it. */
public final class EdgesOfTermsTest extends Runs {
    private static final long FAR = 1L << 34;
    private static final int[] ONES = {1, 1, 1, 1, 1, 1, 1, 1};
    /** DISTANCE of eight samples of DELAY 16384, one of each of the last eight seconds. */
    private static final long NEAR = 8192 + 78477 + 16384;
    /** What one more in the root dispersion adds to it. */
    private static final long ROOT_GRAIN = 65536;

    public static void main(String[] args) {
        stampsWrap();
        divisionsByFloor();
        divisionsThatCutOff();
        roots();
        spreads();
        restOfTheClock();
        reach();
        packets();
        testsOfReplies();
        offsetAndDelay();
        samples();
        dispersions();
        jitterAndDistance();
        firstOneTells();
        whenUpdatesCome();
        candidates();
        howManyMayBeWrong();
        endsOfIntervals();
        rowOfSurvivors();
        thinning();
        whatIsConcluded();
        steps();
        rate();
        pollAndCount();
        Check.end("EdgesOfTermsTest");
    }

    private static TimeKeeper at(long stamp) {
        TimeKeeper x = new TimeKeeper();
        x.set(stamp);
        return x;
    }

    // ---- numbers

    private static void stampsWrap() {
        Check.sentence("Time is in PARTS, 2^32 of a second, as longs that wrap");
        TimeKeeper most = at(Long.MAX_VALUE - SECOND);
        most.pass(1);
        Check.same("the greatest stamp", most.clock(), Long.MAX_VALUE);
        most.pass(1);
        Check.same("a second behind the greatest stamp", most.clock(), Long.MIN_VALUE + SECOND - 1);
        TimeKeeper least = at(Long.MAX_VALUE - SECOND + 1);
        least.pass(1);
        Check.same("one part behind the greatest stamp", least.clock(), Long.MIN_VALUE);
        TimeKeeper far = at(Long.MAX_VALUE);
        far.pass(4096);
        Check.same("4096 seconds behind the greatest stamp", far.clock(), Long.MAX_VALUE + 4096 * SECOND);
        TimeKeeper zero = at(-SECOND);
        zero.pass(1);
        Check.same("from below 0 to 0", zero.clock(), 0);
        stepWraps(Long.MAX_VALUE - 4 * SECOND, SECOND);
        stepWraps(Long.MIN_VALUE + 5, -5 * SECOND);
    }

    /** THE OFFSET takes the clock over the end of the longs. */
    private static void stepWraps(long stamp, long offset) {
        TimeKeeper x = at(stamp);
        tellFour(x, offset);
        Check.same("steps", x.about(STEPS), 1);
        Check.same("the clock that a step took over the end", x.clock(), stamp + 3 * SECOND + 4 * 16384 + offset);
        Check.holds("it is on the other side", stamp > 0 == x.clock() < 0);
    }

    private static void divisionsByFloor() {
        Check.sentence("FLOOR(a / b) is the greatest whole number that is not more");
        long[][] halves = {{-3, -2}, {-2, -1}, {-1, -1}, {0, 0}, {1, 0}, {2, 1}, {3, 1}};
        for (long[] half : halves) {
            TimeKeeper x = at(1L << 41);
            x.request(0);
            x.answer(0, 1, 0, 0, 0, 10000 + half[0], 0, 10000);
            x.hear(0);
            Check.same("OFFSET of a sum of " + half[0], x.peer(0, OFFSET), half[1]);
        }
        long[][] grains = {{-4097, -8192}, {-4096, -4096}, {-1, -4096}, {0, 0}, {1, 0}, {4095, 0}, {4096, 4096}, {8191, 4096}};
        for (long[] grain : grains) {
            TimeKeeper x = new TimeKeeper();
            tellFour(x, grain[0]);
            Check.same("THE OFFSET of " + grain[0], x.about(0), grain[1]);
        }
        long[][] means = {{0, 0, 0}, {0, 4096, 0}, {4096, 4096, 4096}, {0, -4096, -4096}, {-4096, -4096, -4096}, {-4096, -8192, -8192}};
        for (long[] mean : means) {
            TimeKeeper x = told(ONES, new long[] {mean[0], mean[1]});
            Check.same("THE OFFSET of " + mean[0] + " and " + mean[1], x.about(0), mean[2]);
        }
    }

    private static void divisionsThatCutOff() {
        Check.sentence("/ without it cuts off");
        long[][] delays = {{65534, 0}, {65536, 1}, {131070, 1}, {131072, 2}};
        for (long[] delay : delays) {
            TimeKeeper x = at(1L << 41);
            tell(x, 0, 1, 0, delay[0] / 2);
            Check.same("DISPERSION of DELAY " + delay[0], x.sample(0, 0, 2), 16384 + delay[1]);
        }
        TimeKeeper eight = told(ONES, new long[] {0});
        // 8192 + 20202 + 18154 + 13103.5 + 8565 + 5289.1 + 3147.8 + 1825.5, each cut off.
        Check.same("DISPERSION of eight", eight.peer(0, DISPERSION), 78477);
        TimeKeeper odd = at(1L << 41);
        odd.request(0);
        odd.answer(0, 1, 3, 0, 0, 10000, 0, 10001);
        odd.hear(0);
        Check.same("half of ROOT DELAY and an odd DELAY", odd.peer(0, DISTANCE) - odd.peer(0, DISPERSION) - 16384, (3 * 65536 + 20000) / 2);
        for (int sign = -1; sign <= 1; sign += 2) {
            TimeKeeper x = new TimeKeeper();
            tellFour(x, sign * 8192);
            x.pass(2);
            Check.same("REST", x.about(REST), sign * 7938);
            x.pass(1);
            // 7938 / 64 is a little more than 124.
            Check.same("REST without 124", x.about(REST), sign * 7814);
        }
    }

    /** One telling that is FIRST, and others of which each is so many grains of 4096 away. */
    private static long jitterOf(long... grains) {
        TimeKeeper x = at(1L << 42);
        tell(x, 0, 1, 0, 8192);
        for (long grain : grains) {
            tell(x, 0, 1, grain * 4096, 8193);
        }
        return x.peer(0, JITTER) / 4096;
    }

    private static void roots() {
        Check.sentence("ROOT(a) is the greatest whole number whose square is not more");
        Check.same("ROOT(99)", jitterOf(15, 8, 3), 9);
        Check.same("ROOT(100)", jitterOf(10, 10, 10), 10);
        Check.same("ROOT(100) of 302 / 3", jitterOf(14, 9, 5), 10);
        Check.same("ROOT(120) of 362 / 3", jitterOf(19, 1, 0), 10);
        Check.same("ROOT(121)", jitterOf(11, 11, 11), 11);
        for (long great = 16; great < 1L << 28; great *= 2) {
            Check.same("ROOT of a great square", jitterOf(great), great);
            Check.same("ROOT of a square and less than one more", jitterOf(great, great + 1), great);
            Check.same("ROOT of a little less than a square", jitterOf(great, great - 1), great - 1);
        }
        // The greatest differences that two offsets below 2^40 can have.
        TimeKeeper x = at(1L << 42);
        tell(x, 0, 1, (1L << 40) - 1, 8192);
        for (int i = 0; i < 7; i++) {
            tell(x, 0, 1, 1 - (1L << 40), 8193);
        }
        Check.same("the greatest SPREAD below", x.peer(0, JITTER), 1L << 41);
        TimeKeeper y = at(1L << 42);
        tell(y, 0, 1, 1 - (1L << 40), 8192);
        for (int i = 0; i < 7; i++) {
            tell(y, 0, 1, (1L << 40) - 1, 8193);
        }
        Check.same("the greatest SPREAD above", y.peer(0, JITTER), (1L << 41) - 4096);
    }

    private static void spreads() {
        Check.sentence("SPREAD of some numbers of parts: 4096 * ROOT(S / n), S being the sum of the squares of FLOOR(d / 4096)");
        long[][] differences = {{5 * 4096 - 1, 16384}, {5 * 4096, 20480}, {6 * 4096 - 1, 20480}, {6 * 4096, 24576},
            {-4 * 4096, 16384}, {-4 * 4096 - 1, 20480}, {-5 * 4096, 20480}, {-5 * 4096 - 1, 24576}};
        for (long[] d : differences) {
            TimeKeeper x = at(1L << 41);
            tell(x, 0, 1, 1234, 8192);
            // The clock goes on, so that no transmit stamp comes twice.
            x.pass(1);
            tell(x, 0, 1, 1234 + d[0], 8193);
            Check.same("SPREAD of " + d[0], x.peer(0, JITTER), d[1]);
        }
        Check.same("S / n cuts off: 49 / 2", jitterOf(7, 0), 4);
        Check.same("50 / 2", jitterOf(7, 1), 5);
        Check.same("n of seven", jitterOf(9, -9, 9, -9, 9, -9, 9), 9);
    }

    // ---- the clock

    private static void restOfTheClock() {
        Check.sentence("g being REST / 64, or, if that is 0, REST");
        for (int sign = -1; sign <= 1; sign += 2) {
            TimeKeeper x = new TimeKeeper();
            tellFour(x, sign * 4096);
            int seconds = 0;
            for (long rest = 4096; rest > 65; rest -= rest / 64) {
                seconds++;
            }
            x.pass(seconds);
            Check.same("REST", x.about(REST), sign * 65);
            long[] due = {64, 63, 0, 0};
            long rest = 65;
            for (long next : due) {
                long before = x.clock();
                x.pass(1);
                Check.same("REST behind " + rest, x.about(REST), sign * next);
                Check.same("the clock's growth at REST " + rest, x.clock() - before, SECOND + sign * (rest - next));
                rest = next;
            }
        }
        Check.sentence("A SECOND: the clock grows by 2^32 + DRIFT + RATE + g, REST shrinks by g");
        for (int sign = -1; sign <= 1; sign += 2) {
            TimeKeeper x = new TimeKeeper();
            tellFour(x, 0);
            x.pass(16);
            tell(x, 0, sign * 4096 * 128);
            Check.same("RATE", x.about(RATE), sign * 128);
            x.drift(-sign * 33);
            long before = x.clock();
            x.pass(1);
            Check.same("a SECOND", x.clock() - before, SECOND - sign * 33 + sign * 128 + sign * 8192);
            Check.same("REST", x.about(REST), sign * (4096 * 128 - 8192));
        }
        Check.sentence("It has a DRIFT (parts each second, -2000000 .. 2000000, 0 at first), a RATE (likewise, 0 at first)");
        TimeKeeper x = new TimeKeeper();
        x.drift(2000000);
        x.pass(4096);
        Check.same("the greatest DRIFT", x.clock(), 4096 * (SECOND + 2000000));
        x.drift(-2000000);
        x.pass(4096);
        Check.same("the least DRIFT", x.clock(), 2 * 4096 * SECOND);
        Check.refused("a DRIFT above", ARGUMENT, () -> x.drift(2000001));
        Check.refused("a DRIFT below", ARGUMENT, () -> x.drift(-2000001));
    }

    // ---- requests and replies

    private static void reach() {
        Check.sentence("the peer's REACH goes up by one bit (that beyond eight falls out)");
        TimeKeeper x = at(1L << 41);
        tell(x, 6, 0);
        x.request(6);
        tell(x, 6, 0);
        for (int due : new int[] {5, 10, 20, 40, 80, 160, 64, 128, 0, 0}) {
            Check.same("REACH", x.peer(6, REACH), due);
            x.request(6);
        }
        Check.same("REACH of another peer", x.peer(5, REACH), 0);
        Check.sentence("SENT becomes the clock's stamp (or 1, if that is 0)");
        for (long stamp : new long[] {0, 1, -1, 2, Long.MAX_VALUE, Long.MIN_VALUE}) {
            TimeKeeper y = at(stamp);
            Check.same("request at " + stamp, y.request(7), stamp == 0 ? 1 : stamp);
            Check.same("SENT at " + stamp, y.peer(7, SENT), stamp == 0 ? 1 : stamp);
            Check.same("the transmit stamp at " + stamp, outStamp(y, 40), stamp == 0 ? 1 : stamp);
            Check.same("the clock behind a request", y.clock(), stamp);
        }
    }

    private static void packets() {
        Check.sentence("4 .. 7 root delay, 8 .. 11 root dispersion (without sign, 65536 of a second)");
        long[][] roots = {{0x7FFFFFFFL, 0, 7}, {0x80000000L, 0, 7}, {0xFFFFFFFFL, 0, 7}, {0, 0x7FFFFFFFL, 7}, {0, 0x80000000L, 7},
            {0, 0xFFFFFFFFL, 7}, {0x10203, 0x40506, 0}};
        for (long[] root : roots) {
            TimeKeeper x = withReply();
            putNumber(x, 4, 4, root[0]);
            putNumber(x, 8, 4, root[1]);
            Check.same("roots " + root[0] + " and " + root[1], x.hear(0), root[2]);
            if (root[2] == 0) {
                long rest = x.peer(0, DISTANCE) - x.peer(0, DISPERSION) - 16384;
                Check.same("their parts", rest, (root[0] * 65536 + 16384) / 2 + root[1] * 65536);
            }
        }
        Check.sentence("12 .. 23 nothing that counts");
        for (int i = 12; i < 24; i++) {
            TimeKeeper x = withReply();
            TimeKeeper same = withReply();
            x.put(i, 255);
            Check.same("hear with byte " + i, x.hear(0), 0);
            same.hear(0);
            new State(x).isThatOf("byte " + i, new State(same));
        }
        Check.sentence("each with the highest byte first");
        TimeKeeper x = at(0x0102030405060708L);
        x.request(0);
        for (int i = 0; i < 8; i++) {
            Check.same("byte " + (40 + i) + " of a request", x.out(40 + i), i + 1);
        }
    }

    /** Asked at 2^41, heard 16384 later: it passes all tests. */
    private static TimeKeeper withReply() {
        TimeKeeper x = at(1L << 41);
        x.request(0);
        x.answer(0, 1, 0, 0, 0, 8192, 0, 8192);
        return x;
    }

    private static void testsOfReplies() {
        Check.sentence("1 it has not 48 bytes");
        for (int bytes = 0; bytes <= 64; bytes++) {
            TimeKeeper x = withReply();
            if (bytes < 48) {
                x.wipe();
                for (int i = 0; i < bytes; i++) {
                    x.type(0, 1);
                }
            }
            for (int i = 48; i < bytes; i++) {
                x.type(0, 1);
            }
            Check.same("a reply of " + bytes + " bytes", x.hear(0), bytes == 48 ? 0 : 1);
        }
        Check.sentence("2 its version is not 1 .. 4, or its mode not 4");
        int[][] firsts = {{4, 2}, {8 + 4, 0}, {32 + 4, 0}, {40 + 4, 2}, {56 + 4, 2}, {32 + 3, 2}, {32 + 5, 2}, {32, 2}, {64 + 36, 0}};
        for (int[] first : firsts) {
            TimeKeeper x = withReply();
            x.put(0, first[0]);
            Check.same("byte 0 of " + first[0], x.hear(0), first[1]);
        }
        transmitStampsAndOrigins();
        Check.sentence("5 its receive or transmit stamp is 0");
        for (int from : new int[] {32, 40}) {
            TimeKeeper x = withReply();
            putNumber(x, from, 8, 0);
            Check.same("stamp 0 at " + from, x.hear(0), 5);
        }
        smallStamps();
        Check.sentence("6 leap 3, stratum 0 or above 15");
        int[][] strata = {{0, 0, 6}, {0, 1, 0}, {0, 15, 0}, {0, 16, 6}, {0, 255, 6}, {1, 1, 0}, {2, 1, 0}, {3, 1, 6}, {2, 0, 6}, {3, 16, 6}};
        for (int[] told : strata) {
            TimeKeeper x = withReply();
            x.put(0, 64 * told[0] + 36);
            x.put(1, told[1]);
            Check.same("leap " + told[0] + ", stratum " + told[1], x.hear(0), told[2]);
        }
        Check.sentence("7 half its root delay (exactly) and its root dispersion are more than 16 seconds together");
        long most = 16 * 65536;
        long[][] roots = {{0, most, 0}, {0, most + 1, 7}, {1, most, 7}, {2 * most, 0, 0}, {2 * most + 1, 0, 7}, {1, most - 1, 0},
            {2, most - 1, 0}, {3, most - 1, 7}, {most, most / 2, 0}, {most + 1, most / 2, 7}, {2 * most - 1, 0, 0}, {2 * most - 1, 1, 7}};
        for (long[] root : roots) {
            TimeKeeper x = withReply();
            putNumber(x, 4, 4, root[0]);
            putNumber(x, 8, 4, root[1]);
            Check.same("roots " + root[0] + " and " + root[1], x.hear(0), root[2]);
        }
        Check.sentence("8 the offset's size is 2^40 or more");
        long bound = 1L << 41;
        long[][] sums = {{bound - 1, 0}, {bound, 8}, {bound + 1, 8}, {bound + 2, 8}, {1L << 60, 8},
            {2 - bound, 0}, {1 - bound, 8}, {-bound, 8}, {-bound - 1, 8}, {-(1L << 60), 8}};
        for (long[] sum : sums) {
            TimeKeeper x = withReply();
            putNumber(x, 40, 8, x.clock() + sum[0] - 8192);
            Check.same("an offset of half of " + sum[0], x.hear(0), sum[1]);
        }
    }

    /** Stamps of 1 are no 0: the request was sent at -8191, so that receive or transmit can be near 0. */
    private static void smallStamps() {
        for (int stamp = -1; stamp <= 1; stamp++) {
            TimeKeeper x = at(stamp - 8192);
            x.request(0);
            x.answer(0, 1, 0, 0, 0, 8192, 7, 8192);
            Check.same("receive stamp " + stamp, x.hear(0), stamp == 0 ? 5 : 0);
            TimeKeeper y = at(stamp - 8192);
            y.request(0);
            y.answer(0, 1, 0, 0, -7, 8192, 7, 8192);
            Check.same("transmit stamp " + stamp, y.hear(0), stamp == 0 ? 5 : 0);
        }
    }

    private static void transmitStampsAndOrigins() {
        Check.sentence("3 its transmit stamp is LAST (and not 0)");
        for (int more = -1; more <= 1; more++) {
            TimeKeeper x = withReply();
            x.hear(0);
            x.request(0);
            x.answer(0, 1, 0, 0, 0, 8192, 0, 8192);
            putNumber(x, 40, 8, x.peer(0, LAST) + more);
            Check.same("a transmit stamp that is LAST and " + more, x.hear(0), more == 0 ? 3 : 0);
        }
        TimeKeeper zero = withReply();
        putNumber(zero, 40, 8, 0);
        Check.same("transmit stamp 0 where LAST is 0", zero.hear(0), 5);
        TimeKeeper other = withReply();
        other.hear(0);
        other.request(1);
        putNumber(other, 24, 8, other.peer(1, SENT));
        Check.same("the transmit stamp that is another peer's LAST", other.hear(1), 0);
        Check.sentence("4 SENT is 0, or its origin is not SENT");
        for (int more = -1; more <= 1; more++) {
            TimeKeeper x = withReply();
            putNumber(x, 24, 8, x.peer(0, SENT) + more);
            Check.same("an origin that is SENT and " + more, x.hear(0), more == 0 ? 0 : 4);
        }
        for (int i = 24; i < 32; i++) {
            TimeKeeper x = withReply();
            x.put(i, 99);
            Check.same("an origin that is not SENT in byte " + i, x.hear(0), 4);
        }
        TimeKeeper again = withReply();
        again.hear(0);
        again.put(47, 9);
        Check.same("a second reply to one request", again.hear(0), 4);
        putNumber(again, 24, 8, 0);
        Check.same("origin 0 where SENT is 0", again.hear(0), 4);
        TimeKeeper unasked = at(1L << 41);
        unasked.answer(0, 1, 0, 0, 0, 8192, 0, 8192);
        putNumber(unasked, 32, 8, 1L << 41);
        putNumber(unasked, 40, 8, 1L << 41);
        Check.same("origin 0 of a peer that was never asked", unasked.hear(0), 4);
        TimeKeeper late = withReply();
        late.request(0);
        Check.same("a reply to the request before the latest", late.hear(0), 4);
    }

    private static void offsetAndDelay() {
        Check.sentence("but 16384 if it is less, 2^36 if it is more");
        long[][] delays = {{0, 16384}, {16383, 16384}, {16384, 16384}, {16385, 16385}, {MOST - 1, MOST - 1}, {MOST, MOST}, {MOST + 1, MOST},
            {2 * MOST, MOST}};
        for (long[] delay : delays) {
            TimeKeeper x = at(1L << 41);
            x.request(0);
            x.answer(0, 1, 0, 0, 0, delay[0] / 2, 3, delay[0] - delay[0] / 2);
            x.hear(0);
            Check.same("DELAY of " + delay[0], x.peer(0, DELAY), delay[1]);
        }
        TimeKeeper held = at(1L << 41);
        held.request(0);
        held.answer(0, 1, 0, 0, 0, 8192, 0, 8192);
        putNumber(held, 40, 8, held.clock() + 100000);
        held.hear(0);
        Check.same("a DELAY below 0", held.peer(0, DELAY), 16384);
        Check.sentence("Each difference, and the sum, is a long that wraps");
        for (long before : new long[] {10, 25000, 40000}) {
            for (long end : new long[] {Long.MAX_VALUE, -1}) {
                long sent = end - before;
                wraps("stamps on both sides of " + end, new long[] {sent, sent + 20000, sent + 30000, sent + 49990}, 5, 39990);
            }
        }
        long quarter = 1L << 62;
        wraps("a sum of twice -2^63", new long[] {1, Long.MIN_VALUE + 1, Long.MIN_VALUE + 5, 5}, 0, 16384);
        // The DELAY is twice receive - SENT here, the sum being 0.
        wraps("a DELAY that wraps to below 0", new long[] {1, quarter + 11, 5, quarter + 15}, 0, 16384);
        wraps("a DELAY just before it wraps", new long[] {1, quarter, 5, quarter + 4}, 0, MOST);
        wraps("a DELAY that wraps to above 0", new long[] {1, -quarter - 9, 5, -quarter - 5}, 0, MOST);
        wraps("a DELAY just before it wraps from below", new long[] {1, 1 - quarter, 5, 5 - quarter}, 0, 16384);
    }

    /** Stamps: SENT, receive, transmit, and the clock's when it is heard. */
    private static void wraps(String what, long[] stamps, long offset, long delay) {
        TimeKeeper x = at(stamps[0]);
        x.request(0);
        x.set(stamps[3]);
        typePacket(x, 36, 1, 0, new int[2], new long[] {stamps[0], stamps[1], stamps[2]});
        Check.same(what + ": hear", x.hear(0), 0);
        Check.same(what + ": OFFSET", x.peer(0, OFFSET), offset);
        Check.same(what + ": DELAY", x.peer(0, DELAY), delay);
    }

    // ---- what a peer tells

    private static void samples() {
        Check.sentence("the sample is the latest one; of more than eight the oldest goes");
        TimeKeeper x = at(1L << 41);
        for (int i = 0; i < 20; i++) {
            Check.same("samples of " + i, x.peer(0, SAMPLES), Math.min(i, 8));
            // The oldest one is FIRST as long as it is there.
            tell(x, 0, 1, i, 8192 + i);
            int oldest = Math.max(0, i - 7);
            Check.same("OFFSET of the oldest", x.sample(0, 0, 0), oldest);
            Check.same("OFFSET of the latest", x.sample(0, (int) x.peer(0, SAMPLES) - 1, 0), i);
            Check.same("the peer's OFFSET", x.peer(0, OFFSET), oldest);
            Check.same("the peer's DELAY", x.peer(0, DELAY), 2 * (8192 + oldest));
        }
        Check.sentence("THE ORDER of a peer's samples: by DELAY, the least first, of the same the latest first");
        TimeKeeper same = at(1L << 41);
        for (int i = 0; i < 10; i++) {
            tell(same, 0, 1, i, 8192);
        }
        for (int place = 0; place < 8; place++) {
            Check.same("of the same DELAY at " + place, same.sample(0, place, 0), 9 - place);
        }
        TimeKeeper least = at(1L << 41);
        // Ways below 8192 have the same DELAY, the least one; ways above 2^35 the greatest.
        long[] ways = {1, 8192, 8191, 8193, 1L << 35, (1L << 35) + 9, (1L << 35) - 1, 0};
        for (int i = 0; i < 8; i++) {
            tell(least, 0, 1, i, ways[i]);
        }
        int[] due = {7, 2, 1, 0, 3, 6, 5, 4};
        for (int place = 0; place < 8; place++) {
            Check.same("at " + place, least.sample(0, place, 0), due[place]);
        }
    }

    private static void dispersions() {
        Check.sentence("64424 for each second of UPTIME since then, at most 2^36");
        // DELAY / 65536 is 54576: so 1066674 seconds make it 2^36 exactly.
        dispersionEnds(54576L * 65536 / 2, 1066674, 0);
        dispersionEnds(54576L * 65536 / 2 - 32768, 1066674, -1);
        // DISPERSION 16384: 2^36 would be passed by 9848.
        dispersionEnds(8192, 1066674, -54576);
        dispersionEnds(8192, 1066675, 0);
        Check.sentence("the dispersion NOW there, 2^36 where there is no sample");
        long[] due = {34091311104L, 16911462122L, 8321545684L, 4026591491L, 1879116408L, 805379873L, 268512108L, 78477L};
        TimeKeeper x = at(1L << 41);
        for (int i = 0; i < 8; i++) {
            x.pass(1);
            tell(x, 0, 0);
            Check.same("DISPERSION of " + (i + 1), x.peer(0, DISPERSION), due[i]);
        }
        x.pass(1);
        tell(x, 0, 0);
        Check.same("DISPERSION of nine", x.peer(0, DISPERSION), due[7]);
    }

    /** How much less than 2^36 a dispersion is after so many seconds, and that it never is more. */
    private static void dispersionEnds(long way, int seconds, long less) {
        TimeKeeper x = at(1L << 41);
        tell(x, 0, 1, 0, way);
        for (int i = 0; i < seconds / 4096; i++) {
            x.pass(4096);
        }
        x.pass(seconds % 4096);
        Check.same("dispersion NOW after " + seconds, x.sample(0, 0, 2), MOST + less);
        Check.same("DISPERSION after " + seconds, x.peer(0, DISPERSION), (MOST + less) / 2 + MOST / 2 - MOST / 256);
        x.pass(1);
        Check.same("dispersion NOW a second later", x.sample(0, 0, 2), MOST);
        x.pass(4096);
        Check.same("dispersion NOW much later", x.sample(0, 0, 2), MOST);
        Check.same("DISPERSION much later", x.peer(0, DISPERSION), MOST - MOST / 256);
    }

    private static void jitterAndDistance() {
        Check.sentence("16384 at least, also if there are no others");
        Check.same("JITTER of one", jitterOf(), 4);
        Check.same("JITTER of no difference", jitterOf(0), 4);
        for (int grains = 1; grains < 8; grains++) {
            Check.same("JITTER of " + grains, jitterOf(grains), Math.max(4, grains));
            Check.same("JITTER of -" + grains, jitterOf(-grains), Math.max(4, grains));
        }
        Check.sentence("(the greater of 16384 and ROOT DELAY + DELAY) / 2");
        long[][] delays = {{16384, 0, 8192}, {16385, 0, 8192}, {16386, 0, 8193}, {16384, 1, 40960}, {16385, 1, 40960}};
        for (long[] delay : delays) {
            TimeKeeper x = at(1L << 41);
            x.request(0);
            x.answer(0, 1, (int) delay[1], 0, 0, 8192, 0, delay[0] - 8192);
            x.hear(0);
            Check.same("half of DELAY " + delay[0] + " and ROOT DELAY " + delay[1],
                x.peer(0, DISTANCE) - x.peer(0, DISPERSION) - x.peer(0, JITTER), delay[2]);
        }
    }

    /** The FIRST one is the earlier here: its OFFSET and DELAY count, of a ROOT DELAY and ROOT DISPERSION told later. */
    private static void firstOneTells() {
        Check.sentence("The FIRST one tells the peer's OFFSET and DELAY");
        TimeKeeper x = at(1L << 41);
        x.request(0);
        x.answer(0, 1, 5, 6, 4096, 9000, 0, 9000);
        x.hear(0);
        x.request(0);
        x.answer(0, 1, 7, 8, 4096, 20000, 0, 20000);
        x.hear(0);
        Check.same("OFFSET", x.peer(0, OFFSET), 4096);
        Check.same("DELAY", x.peer(0, DELAY), 18000);
        long due = (7 * 65536 + 18000) / 2 + 8 * 65536 + x.peer(0, DISPERSION) + 16384;
        Check.same("DISTANCE", x.peer(0, DISTANCE), due);
    }

    // ---- updates

    private static void whenUpdatesCome() {
        Check.sentence("if the peer's FIRST one is younger (by UPTIME)");
        TimeKeeper x = new TimeKeeper();
        tellFour(x, 0);
        Check.same("led", x.about(LED), 1);
        tell(x, 0, 0);
        Check.same("a FIRST one of the same second", x.about(LED), 1);
        x.pass(1);
        tell(x, 0, 1, 0, 8193);
        Check.same("a sample that is not FIRST", x.about(LED), 1);
        tell(x, 0, 0);
        Check.same("a FIRST one of the next second", x.about(LED), 2);
        tell(x, 0, 0);
        Check.same("another of that second", x.about(LED), 2);
        oldFirstOneGoes();
        Check.sentence("or there was none");
        tell(x, 1, 0);
        Check.same("a peer that no UPDATE looked at", x.about(LED), 3);
        tell(x, 1, 0);
        Check.same("the same peer in the same second", x.about(LED), 3);
        tell(x, 2, 0);
        Check.same("a third peer in the same second", x.about(LED), 4);
        tell(x, 0, 0);
        Check.same("the first peer, in a second of other peers' updates", x.about(LED), 4);
        Check.sentence("also where that one went by a step");
        TimeKeeper stepped = new TimeKeeper();
        tellFour(stepped, SECOND);
        Check.same("steps", stepped.about(STEPS), 1);
        Check.same("samples behind a step", stepped.peer(0, SAMPLES), 0);
        for (int i = 0; i < 5; i++) {
            tell(stepped, 0, 0);
            chosenIs("no UPDATE in the second of the step", stepped, 1, 1, 1);
            Check.same("led in the second of the step", stepped.about(LED), 1);
        }
        stepped.pass(1);
        tell(stepped, 0, 0);
        Check.same("led in the next second", stepped.about(LED), 2);
        TimeKeeper other = new TimeKeeper();
        tellFour(other, SECOND);
        tell(other, 1, 0);
        chosenIs("another peer in the second of the step", other, 0, 0, 0);
    }

    /** An UPDATE comes behind a sample that is not FIRST, because the one that was FIRST is too old. */
    private static void oldFirstOneGoes() {
        TimeKeeper x = new TimeKeeper();
        tell(x, 0, 1, 0, 8192);
        for (int second = 1; second <= 7; second++) {
            x.pass(1);
            tell(x, 0, 1, 0, second == 3 ? 8500 : second == 5 ? 8600 : 9000);
            chosenIs("as long as the oldest is FIRST", x, 0, 0, 0);
        }
        x.pass(1);
        tell(x, 0, 1, 0, 9000);
        chosenIs("when the oldest went", x, 1, 1, 1);
        Check.same("led when the oldest went", x.about(LED), 1);
        // What it looked at is of second 3, though the sample behind which it came is of second 8.
        for (int second = 9; second <= 10; second++) {
            x.pass(1);
            tell(x, 0, 1, 0, 9000);
            Check.same("led as long as the next is FIRST", x.about(LED), 1);
        }
        x.pass(1);
        tell(x, 0, 1, 0, 9000);
        Check.same("FIRST is that of second 5", x.peer(0, DELAY), 17200);
        Check.same("led when the next went too", x.about(LED), 2);

        TimeKeeper same = new TimeKeeper();
        tell(same, 0, 1, 0, 8192);
        tell(same, 0, 1, 0, 8500);
        for (int second = 1; second <= 7; second++) {
            same.pass(1);
            tell(same, 0, 1, 0, 9000);
        }
        Check.same("FIRST is the other of that second", same.peer(0, DELAY), 17000);
        chosenIs("a FIRST one of the same UPTIME", same, 0, 0, 0);
        same.pass(1);
        tell(same, 0, 1, 0, 9000);
        chosenIs("a FIRST one of later", same, 1, 1, 1);
    }

    private static void candidates() {
        Check.sentence("CANDIDATES are peers with a sample, REACH not 0");
        for (int requests = 0; requests <= 9; requests++) {
            TimeKeeper x = new TimeKeeper();
            tellFour(x, 0);
            // REACH is 15: the fourth bit is the latest to fall out.
            for (int i = 0; i < requests; i++) {
                x.request(0);
            }
            Check.same("REACH behind " + requests, x.peer(0, REACH) == 0 ? 0 : 1, requests < 8 ? 1 : 0);
            tell(x, 1, 0);
            int due = requests < 8 ? 1 : 0;
            chosenIs(requests + " requests without a reply", x, due, due, due);
        }
        TimeKeeper stepped = new TimeKeeper();
        tellFour(stepped, SECOND);
        Check.holds("REACH behind a step", stepped.peer(0, REACH) != 0);
        tell(stepped, 1, 0);
        chosenIs("REACH without a sample", stepped, 0, 0, 0);
        Check.sentence("and DISTANCE below 6442450944");
        for (int less = -1; less <= 1; less++) {
            TimeKeeper x = new TimeKeeper();
            for (int i = 0; i < 4; i++) {
                x.pass(1);
                x.request(0);
                x.answer(0, 1, 1, 36862, 0, 22269 - less, 0, 22269 - less);
                x.hear(0);
            }
            Check.same("DISTANCE", x.peer(0, DISTANCE), 6442450944L - less);
            int due = less > 0 ? 1 : 0;
            chosenIs("a DISTANCE " + less + " below the bound", x, due, due, due);
        }
    }

    private static void howManyMayBeWrong() {
        Check.sentence("For f = 0, 1, .. as long as 2 f is below the number m of candidates");
        for (int m = 1; m <= 8; m++) {
            for (int wrong = 0; wrong < m; wrong++) {
                long[] offsets = new long[m];
                for (int i = m - wrong; i < m; i++) {
                    offsets[i] = (i % 2 == 0 ? FAR : -FAR) * (i + 1);
                }
                TimeKeeper x = told(ONES, offsets);
                int all = (1 << m) - 1;
                int right = (1 << m - wrong) - 1;
                int due = 2 * wrong < m ? right : 0;
                chosenIs(wrong + " wrong of " + m, x, all, due, due);
            }
        }
        Check.sentence("L is the least lower end, H the greatest upper end of an interval, that lie in at least m - f intervals");
        TimeKeeper one = told(ONES, new long[] {700});
        endsAre("one", one, 700 - NEAR, 700 + NEAR);
        TimeKeeper three = told(ONES, new long[] {0, 20000, 10000});
        chosenIs("three", three, 7, 7, 7);
        endsAre("all three", three, 20000 - NEAR, NEAR);
        // All three intervals meet, but not around all offsets: so one may be wrong.
        TimeKeeper two = told(ONES, new long[] {0, 0, NEAR + 10});
        chosenIs("two of three that meet", two, 7, 3, 3);
        endsAre("two of three that meet", two, -NEAR, NEAR);
        // One end of all three is the same, and lies in more intervals than it needs to; the third one's offset is outside.
        for (int sign = -1; sign <= 1; sign += 2) {
            TimeKeeper common = toldWide(ONES, new long[] {0, 0, sign * 2 * ROOT_GRAIN}, new int[] {0, 0, 2});
            chosenIs("a common end", common, 7, 3, 3);
            endsAre("a common end", common, -NEAR, NEAR);
        }
        Check.sentence("Without any, nothing more is done");
        TimeKeeper none = told(ONES, new long[] {8192, FAR});
        chosenIs("one against one", none, 3, 0, 0);
        Check.same("led by the first alone", none.about(LED), 1);
        Check.same("THE OFFSET of then", none.about(0), 8192);
        Check.same("THE JITTER of then", none.about(1), 16384);
        Check.same("THE STRATUM of then", none.about(2), 2);
        endsAre("then", none, 8192 - DISTANCE_OF_FOUR, 8192 + DISTANCE_OF_FOUR);
        Check.same("COUNT of then", none.about(COUNT), 6);
        Check.same("POLL of then", none.about(POLL), 6);
        // Four seconds of 8192 / 64 and so on: 128 + 126 + 124 + 122.
        Check.same("REST of then, as it was spent", none.about(REST), 8192 - 500);
    }

    private static void endsAre(String what, TimeKeeper x, long low, long high) {
        Check.same("L of " + what, x.about(3), low);
        Check.same("H of " + what, x.about(4), high);
    }

    /** As told, with a root dispersion of its own for each. */
    private static TimeKeeper toldWide(int[] strata, long[] offsets, int[] roots) {
        return toldUneasily(strata, offsets, roots, new long[offsets.length]);
    }

    /** All tellings but the last differ from it by so much: where that is a multiple of 4096, it is the JITTER. */
    private static TimeKeeper toldUneasily(int[] strata, long[] offsets, int[] roots, long[] jitters) {
        TimeKeeper x = new TimeKeeper();
        for (int i = 0; i < 8; i++) {
            x.pass(1);
            for (int peer = 0; peer < offsets.length; peer++) {
                long jump = i < 7 ? jitters[peer] : 0;
                tell(x, peer, strata[peer], roots[peer], offsets[peer] + jump, 8192);
            }
        }
        return x;
    }

    private static void endsOfIntervals() {
        Check.sentence("(ends lie in them)");
        long wide = NEAR + 4 * ROOT_GRAIN;
        int[] secondIsWide = {0, 4, 0};
        for (int sign = -1; sign <= 1; sign += 2) {
            // The first two meet in one end, which takes the second one's offset in.
            long second = sign * (NEAR + wide);
            long third = second + sign * (NEAR + 1);
            TimeKeeper meet = toldWide(ONES, new long[] {0, second, third}, secondIsWide);
            chosenIs("two that meet in one end", meet, 7, 6, 6);
            long outer = third + sign * NEAR;
            endsAre("two that meet in one end", meet, sign > 0 ? NEAR : outer, sign > 0 ? outer : -NEAR);
            TimeKeeper apart = toldWide(ONES, new long[] {-sign, second, third}, secondIsWide);
            chosenIs("two that do not meet", apart, 7, 0, 0);
        }
        Check.sentence("at most f candidates have their OFFSET outside L .. H: those inside are SURVIVORS");
        int[] firstIsWide = {4, 0};
        for (int sign = -1; sign <= 1; sign += 2) {
            TimeKeeper within = toldWide(ONES, new long[] {0, sign * (NEAR - 1)}, firstIsWide);
            chosenIs("an OFFSET within L .. H", within, 3, 3, 3);
            TimeKeeper edge = toldWide(ONES, new long[] {0, sign * NEAR}, firstIsWide);
            chosenIs("an OFFSET at L or H", edge, 3, 3, 3);
            Check.same("the end there", edge.about(sign > 0 ? 3 : 4), 0);
            TimeKeeper beyond = toldWide(ONES, new long[] {0, sign * (NEAR + 1)}, firstIsWide);
            chosenIs("an OFFSET beyond L or H", beyond, 3, 0, 0);
        }
    }

    private static void rowOfSurvivors() {
        Check.sentence("The survivors stand in a row, by STRATUM * 6442450944 + DISTANCE, the least first");
        // The second one's DISTANCE is near its bound.
        TimeKeeper strata = toldWide(new int[] {2, 1}, new long[] {0, 0}, new int[] {0, 98302});
        chosenIs("two strata", strata, 3, 3, 3);
        Check.same("DISTANCE near its bound", strata.peer(1, DISTANCE), 98302 * ROOT_GRAIN + NEAR);
        Check.same("the lesser stratum is first", strata.about(2), 2);
        TimeKeeper distances = toldUneasily(ONES, new long[] {0, 0}, new int[] {5, 0}, new long[] {0, 40960});
        Check.same("the lesser DISTANCE is first", distances.about(1), 40960);
        distances = toldUneasily(ONES, new long[] {0, 0}, new int[] {0, 5}, new long[] {0, 40960});
        Check.same("the lesser DISTANCE is first", distances.about(1), 16384);
        Check.sentence("of the same by number");
        TimeKeeper same = toldUneasily(ONES, new long[] {0, 0}, new int[] {0, 1}, new long[] {81920, 0});
        Check.same("the same DISTANCE", same.peer(0, DISTANCE), same.peer(1, DISTANCE));
        Check.same("the lesser number is first", same.about(1), 81920);
        same = toldUneasily(ONES, new long[] {0, 0}, new int[] {1, 0}, new long[] {0, 81920});
        Check.same("the same DISTANCE", same.peer(0, DISTANCE), same.peer(1, DISTANCE));
        Check.same("the lesser number is first", same.about(1), 16384);
    }

    private static void thinning() {
        int[] wide = {1000, 1000, 1000, 1000, 1000, 1000, 1000, 1000};
        Check.sentence("As long as there are more than three");
        for (int n = 1; n <= 8; n++) {
            long[] offsets = new long[n];
            for (int i = 0; i < n; i++) {
                offsets[i] = i * 409600L;
            }
            TimeKeeper x = toldWide(ONES, offsets, wide);
            int all = (1 << n) - 1;
            // The outermost two have the same s, and the last one of them goes.
            chosenIs(n + " in a line", x, all, all, Math.min(all, 7));
        }
        Check.sentence("the one with the greatest s (of the same the last one) goes");
        chosenIs("two pairs", toldWide(ONES, new long[] {0, 0, 409600, 409600}, wide), 15, 15, 7);
        int[] backwards = {4, 3, 2, 1};
        chosenIs("two pairs backwards", toldWide(backwards, new long[] {0, 0, 409600, 409600}, wide), 15, 15, 14);
        for (int apart = 0; apart < 4; apart++) {
            long[] offsets = new long[4];
            offsets[apart] = 409600;
            chosenIs("peer " + apart + " apart", toldWide(ONES, offsets, wide), 15, 15, 15 - (1 << apart));
        }
        Check.sentence("if that is not below the least JITTER of all survivors; else it ends");
        // FLOOR of the differences of the others' offsets to its own.
        long[][] seconds = {{20480, 13}, {16384, 13}, {12289, 13}, {12288, 15}, {0, 15}, {-12288, 15}, {-16383, 15}, {-16384, 13}, {-20480, 13}};
        for (long[] second : seconds) {
            TimeKeeper x = toldWide(ONES, new long[] {0, second[0], 0, 0}, wide);
            chosenIs("the second one at " + second[0], x, 15, 15, (int) second[1]);
        }
        long[] second = {0, 40960, 0, 0};
        chosenIs("s below all JITTER", toldUneasily(ONES, second, wide, new long[] {45056, 45056, 45056, 45056}), 15, 15, 15);
        for (int least = 0; least < 4; least++) {
            // Whichever place of the row has it.
            long[] jitters = {45056, 45056, 45056, 45056};
            int[] strata = {1, 2, 3, 4};
            jitters[least] = 40960;
            chosenIs("s at the least JITTER", toldUneasily(strata, second, wide, jitters), 15, 15, 13);
            jitters[least] = 36864;
            chosenIs("s above the least JITTER", toldUneasily(strata, second, wide, jitters), 15, 15, 13);
        }
        // Once the fifth one has gone, its JITTER is none of a survivor.
        TimeKeeper gone = toldUneasily(ONES, new long[] {0, 40960, 0, 0, 819200}, wide, new long[] {204800, 204800, 204800, 204800, 0});
        chosenIs("the least JITTER went", gone, 31, 31, 15);
    }

    private static void whatIsConcluded() {
        Check.sentence("With w = 2^46 / DISTANCE of each survivor");
        // 10922 and 17895: what is cut off from them takes the mean of 0 and 122070 from 75802.4 to 75803.9.
        TimeKeeper weighed = toldWide(ONES, new long[] {0, 500000000}, new int[] {98302, 60000});
        chosenIs("two of great DISTANCE", weighed, 3, 3, 3);
        Check.same("THE OFFSET of two of great DISTANCE", weighed.about(0), 75803 * 4096);
        TimeKeeper beside = toldWide(ONES, new long[] {1L << 36, 500000000, 0}, new int[] {98302, 60000, 98302});
        chosenIs("the same two beside one that is wrong", beside, 7, 6, 6);
        Check.same("THE OFFSET of the same two", beside.about(0), 75803 * 4096);
        // 17895 / 28817 of each: one part of 28817 below a whole number, none, and one above it.
        long[][] means = {{810, 502}, {28817, 17895}, {28007, 17392}, {-28007, -17393}, {-28817, -17895}, {-810, -503}};
        for (long[] grain : means) {
            TimeKeeper x = toldWide(ONES, new long[] {0, grain[0] * 4096}, new int[] {98302, 60000});
            chosenIs("two of great DISTANCE", x, 3, 3, 3);
            Check.same("THE OFFSET of 0 and " + grain[0], x.about(0), grain[1] * 4096);
        }
        Check.sentence("THE JITTER the greater of the first one's and the SPREAD");
        for (int grains = 0; grains < 10; grains++) {
            TimeKeeper x = told(ONES, new long[] {0, 2 * grains * 4096});
            Check.same("THE OFFSET between 0 and " + 2 * grains, x.about(0), grains * 4096);
            Check.same("THE JITTER of 0 and " + 2 * grains, x.about(1), Math.max(4, grains) * 4096);
        }
        Check.sentence("THE STRATUM is the first one's and 1");
        for (int stratum = 1; stratum <= 15; stratum++) {
            Check.same("THE STRATUM", told(new int[] {stratum}, new long[] {0}).about(2), stratum + 1);
        }
    }

    // ---- the clock is led

    private static void steps() {
        Check.sentence("If o's size is above 549755813 (a step)");
        for (int sign = -1; sign <= 1; sign += 2) {
            // THE OFFSET is a multiple of 4096: these are the nearest two.
            TimeKeeper below = new TimeKeeper();
            tellFour(below, sign * 549752832L);
            Check.same("steps by 549752832", below.about(STEPS), 0);
            Check.same("REST", below.about(REST), sign * 549752832L);
            Check.same("led", below.about(LED), 1);
            TimeKeeper above = at(1L << 41);
            tellFour(above, sign * 549756928L);
            Check.same("steps by 549756928", above.about(STEPS), 1);
            Check.same("REST", above.about(REST), 0);
            Check.same("led", above.about(LED), 1);
            Check.same("the clock", above.clock(), (1L << 41) + 3 * SECOND + 4 * 16384 + sign * 549756928L);
        }
        Check.sentence("when it was never led, or the seconds since it was led before are 300 or more; otherwise nothing");
        stepsAtUptimeZero();
        for (int seconds : new int[] {1, 298, 299, 300, 301, 4000}) {
            for (int sign = -1; sign <= 1; sign += 2) {
                stepsAfter(seconds, sign * SECOND);
            }
        }
    }

    /** Four tellings in second 0, of which the last alone can bring an UPDATE, being of another peer. */
    private static void stepsAtUptimeZero() {
        TimeKeeper x = at(1L << 41);
        for (int i = 0; i < 4; i++) {
            tell(x, 0, SECOND);
        }
        Check.same("led", x.about(LED), 0);
        tell(x, 1, SECOND);
        Check.same("a step at UPTIME 0", x.about(STEPS), 1);
        Check.same("UPTIME", x.pass(0), 0);
        for (int second = 1; second <= 5; second++) {
            x.pass(1);
            tell(x, 0, SECOND);
        }
        chosenIs("led at UPTIME 0 is not never", x, 1, 1, 1);
        Check.same("steps", x.about(STEPS), 1);
        x.pass(294);
        tell(x, 0, SECOND);
        Check.same("steps at UPTIME 299", x.about(STEPS), 1);
        x.pass(1);
        tell(x, 0, SECOND);
        Check.same("steps at UPTIME 300", x.about(STEPS), 2);
    }

    /** Led by little at UPTIME 3 and 19, there also behind two other peers, then asked to step. */
    private static void stepsAfter(int seconds, long offset) {
        TimeKeeper x = at(1L << 41);
        tellFour(x, 4096 * 1000);
        x.pass(16);
        tell(x, 0, 4096 * 1000);
        tell(x, 3, 7, 0, 8192);
        tell(x, 4, 7, 0, 8192);
        x.request(5);
        x.pass(seconds);
        long asked = x.peer(5, SENT);
        long rest = x.about(REST);
        x.request(0);
        x.answer(0, 1, 0, 0, offset, 8192, 0, 8192);
        long before = x.clock();
        Check.same("hear", x.hear(0), 0);
        chosenIs("asked to step", x, 1, 1, 1);
        Check.same("THE OFFSET", x.about(0), offset);
        boolean due = seconds >= 300;
        String what = " after " + seconds;
        Check.same("steps" + what, x.about(STEPS), due ? 1 : 0);
        Check.same("led" + what, x.about(LED), due ? 5 : 4);
        Check.same("RATE" + what, x.about(RATE), due ? 0 : 1000);
        Check.same("REST" + what, x.about(REST), due ? 0 : rest);
        Check.same("COUNT" + what, x.about(COUNT), -10);
        Check.same("POLL" + what, x.about(POLL), 5);
        Check.same("samples" + what, x.peer(0, SAMPLES), due ? 0 : 6);
        Check.same("samples of another peer" + what, x.peer(3, SAMPLES), due ? 0 : 1);
        Check.same("STRATUM" + what, x.peer(3, STRATUM), 7);
        Check.same("REACH" + what, x.peer(3, REACH), 1);
        Check.same("LAST" + what, x.peer(0, LAST), before - 8192 + offset);
        Check.same("SENT" + what, x.peer(5, SENT), due ? 0 : asked);
        Check.same("the clock" + what, x.clock() - before, due ? offset : 0);
        // Whether it was led then shows in u.
        x.pass(1);
        for (int i = 0; i < 3; i++) {
            tell(x, 0, 4096 * 160);
            x.pass(1);
        }
        tell(x, 0, 4096 * 160);
        Check.same("led again" + what, x.about(LED), due ? 6 : 8);
        if (due) {
            Check.same("RATE by u since the step", x.about(RATE), 4096 * 160 * 4 / 16384);
        }
    }

    private static void rate() {
        Check.sentence("u the seconds of UPTIME since it was led before (at most 1024; 0 if never)");
        int[][] seconds = {{1, 1}, {2, 2}, {1023, 1023}, {1024, 1024}, {1025, 1024}, {4096, 1024}};
        for (int[] u : seconds) {
            Check.same("RATE by u " + u[0], rateAfter(u[0], 65536), u[1]);
            Check.same("RATE by u " + u[0], rateAfter(u[0], -65536), -u[1]);
        }
        TimeKeeper never = new TimeKeeper();
        never.pass(1000);
        tellFour(never, 4096 * 1000);
        Check.same("RATE when it was never led", never.about(RATE), 0);
        Check.same("led", never.about(LED), 1);
        Check.sentence("RATE grows by FLOOR(o * u / 2^(2 POLL + 4))");
        long[][] floors = {{4096, 15, 0}, {4096, 16, 1}, {4096, 31, 1}, {4096, 32, 2}, {-4096, 1, -1}, {-4096, 16, -1}, {-4096, 17, -2}};
        for (long[] floor : floors) {
            Check.same("RATE by " + floor[0] + " * " + floor[1], rateAfter((int) floor[1], floor[0]), floor[2]);
        }
        TimeKeeper changing = new TimeKeeper();
        tellFour(changing, 61440);
        led(changing, 61440, 4);
        Check.same("RATE of less than a part", changing.about(RATE), 0);
        changing.pass(64);
        tell(changing, 0, 61440);
        Check.same("POLL that changes", changing.about(POLL), 7);
        Check.same("RATE by the POLL of before", changing.about(RATE), 60);
        Check.sentence("REST becomes o");
        TimeKeeper again = new TimeKeeper();
        tellFour(again, 4096 * 100);
        again.pass(1);
        tell(again, 0, 4096 * 50);
        Check.same("REST is no sum", again.about(REST), 4096 * 50);
        again.pass(1);
        tell(again, 0, 0);
        Check.same("REST of THE OFFSET 0", again.about(REST), 0);
        Check.sentence("but not beyond -2000000 .. 2000000");
        long[][] ends = {{131067904, 1999937}, {131072000, 2000000}, {131076096, 2000000}, {549752832, 2000000},
            {-131067904, -1999938}, {-131072000, -2000000}, {-131076096, -2000000}, {-549752832, -2000000}};
        for (long[] end : ends) {
            Check.same("RATE by " + end[0], rateAfter(1000, end[0]), end[1]);
        }
        for (int sign = -1; sign <= 1; sign += 2) {
            TimeKeeper x = new TimeKeeper();
            tellFour(x, 0);
            x.pass(1000);
            tell(x, 0, sign * 131072000L);
            x.pass(16);
            tell(x, 0, sign * 4096);
            Check.same("RATE beyond its bound", x.about(RATE), sign * 2000000);
            x.pass(16);
            tell(x, 0, -sign * 4096);
            Check.same("RATE back from its bound", x.about(RATE), sign * 1999999);
        }
    }

    /** Led by 0 first, at POLL 6: so o * u is divided by 2^16. */
    private static long rateAfter(int seconds, long offset) {
        TimeKeeper x = new TimeKeeper();
        tellFour(x, 0);
        x.pass(seconds);
        tell(x, 0, offset);
        return x.about(RATE);
    }

    private static void pollAndCount() {
        Check.sentence("the COUNT grows by POLL if o's size is below 4 * THE JITTER, else shrinks by 2 * POLL");
        long[][] sizes = {{0, 6}, {61440, 6}, {-61440, 6}, {65536, -12}, {-65536, -12}, {69632, -12}, {-69632, -12}};
        for (long[] size : sizes) {
            TimeKeeper x = new TimeKeeper();
            tellFour(x, size[0]);
            Check.same("COUNT by " + size[0], x.about(COUNT), size[1]);
            Check.same("POLL by " + size[0], x.about(POLL), 6);
        }
        Check.sentence("above 30 it is 0, and POLL one more (10 at most)");
        TimeKeeper up = new TimeKeeper();
        tellFour(up, 0);
        int[][] calm = {{6, 6}, {6, 12}, {6, 18}, {6, 24}, {6, 30}, {7, 0}, {7, 7}, {7, 14}, {7, 21}, {7, 28}, {8, 0}, {8, 8}, {8, 16}, {8, 24},
            {9, 0}, {9, 9}, {9, 18}, {9, 27}, {10, 0}, {10, 10}, {10, 20}, {10, 30}, {10, 0}, {10, 10}, {10, 20}, {10, 30}, {10, 0}};
        pollsAre(up, 0, calm);
        up.request(1);
        Check.same("POLL 10 in a request", up.out(2), 10);
        Check.same("RATE at POLL 10 before", up.about(RATE), 0);
        up.pass(64);
        tell(up, 0, 16 * 4096 - 4096);
        Check.same("RATE at POLL 10", up.about(RATE), 0);
        up.pass(1024);
        tell(up, 0, 16 * 4096);
        Check.same("RATE at POLL 10", up.about(RATE), 4);
        Check.sentence("below -30 it is 0, and POLL one less (4 at least)");
        int[][] uneasy = {{6, -12}, {6, -24}, {5, 0}, {5, -10}, {5, -20}, {5, -30}, {4, 0}, {4, -8}, {4, -16}, {4, -24}, {4, 0}, {4, -8}};
        for (int sign = -1; sign <= 1; sign += 2) {
            TimeKeeper down = new TimeKeeper();
            tellFour(down, sign * 65536);
            pollsAre(down, sign * 65536, uneasy);
            down.request(1);
            Check.same("POLL 4 in a request", down.out(2), 4);
            long before = down.about(RATE);
            down.pass(2);
            tell(down, 0, sign * 65536);
            Check.same("RATE at POLL 4", down.about(RATE) - before, sign * 32);
            Check.same("COUNT at POLL 4", down.about(COUNT), -16);
        }
    }

    /** POLL and COUNT, lead by lead, a second between two. */
    private static void pollsAre(TimeKeeper x, long offset, int[][] due) {
        for (int i = 0; i < due.length; i++) {
            if (i > 0) {
                led(x, offset, 1);
            }
            Check.same("led", x.about(LED), i + 1);
            Check.same("POLL at lead " + (i + 1), x.about(POLL), due[i][0]);
            Check.same("COUNT at lead " + (i + 1), x.about(COUNT), due[i][1]);
        }
    }
}
