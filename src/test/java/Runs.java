/** What the hand-made runs of the tests are made of: tellings, packets, and the numbers of the questions. */
abstract class Runs {
    static final Class<IndexOutOfBoundsException> INDEX = IndexOutOfBoundsException.class;
    static final Class<IllegalArgumentException> ARGUMENT = IllegalArgumentException.class;
    static final Class<IllegalStateException> STATE = IllegalStateException.class;

    static final long SECOND = 1L << 32;
    static final long MOST = 1L << 36;
    /** DISPERSION of four samples of delay 16384, taken at each of the last four seconds. */
    static final long DISPERSION_OF_FOUR = 8192 + 20202 + 18154 + 13103 + (MOST / 32 + MOST / 64 + MOST / 128 + MOST / 256);
    static final long DISTANCE_OF_FOUR = 8192 + DISPERSION_OF_FOUR + 16384;

    static final int SENT = 0;
    static final int LAST = 1;
    static final int OFFSET = 2;
    static final int DELAY = 3;
    static final int DISPERSION = 4;
    static final int JITTER = 5;
    static final int DISTANCE = 6;
    static final int SAMPLES = 7;
    static final int REACH = 8;
    static final int STRATUM = 9;

    static final int RATE = 5;
    static final int REST = 6;
    static final int POLL = 7;
    static final int COUNT = 8;
    static final int STEPS = 9;
    static final int LED = 10;

    /** One telling that is taken: its offset is exact, its delay 2 * way. */
    static void tell(TimeKeeper x, int peer, int stratum, int rootDispersion, long offset, long way) {
        x.request(peer);
        x.answer(peer, stratum, 0, rootDispersion, offset, way, 0, way);
        Check.same("hear of a telling of peer " + peer, x.hear(peer), 0);
    }

    static void tell(TimeKeeper x, int peer, int stratum, long offset, long way) {
        tell(x, peer, stratum, 0, offset, way);
    }

    static void tell(TimeKeeper x, int peer, long offset) {
        tell(x, peer, 1, offset, 8192);
    }

    /** Four tellings, a second between them: as many as make a candidate. */
    static void tellFour(TimeKeeper x, long offset) {
        for (int i = 0; i < 4; i++) {
            if (i > 0) {
                x.pass(1);
            }
            tell(x, 0, offset);
        }
    }

    /** Eight tellings of each of these peers, one of each in every second, the later peers after the earlier. */
    static TimeKeeper told(int[] strata, long[] offsets) {
        return told(strata, offsets, 0);
    }

    /** A root dispersion makes the intervals wide. */
    static TimeKeeper told(int[] strata, long[] offsets, int rootDispersion) {
        TimeKeeper x = new TimeKeeper();
        for (int i = 0; i < 8; i++) {
            x.pass(1);
            for (int peer = 0; peer < offsets.length; peer++) {
                tell(x, peer, strata[peer], rootDispersion, offsets[peer], 8192);
            }
        }
        return x;
    }

    static void typeStamp(TimeKeeper x, long stamp) {
        x.type(Long.reverseBytes(stamp), 8);
    }

    /** A packet of 48 bytes on the TAPE. */
    static void typePacket(TimeKeeper x, int first, int stratum, int poll, int[] roots, long[] stamps) {
        x.wipe();
        x.type(first | stratum << 8 | poll << 16 | 0xEE << 24, 4);
        x.type(Integer.reverseBytes(roots[0]), 4);
        x.type(Integer.reverseBytes(roots[1]), 4);
        x.type(0, 8);
        x.type(0, 4);
        for (long stamp : stamps) {
            typeStamp(x, stamp);
        }
    }

    static long outStamp(TimeKeeper x, int from) {
        long v = 0;
        for (int i = from; i < from + 8; i++) {
            v = v << 8 | x.out(i);
        }
        return v;
    }

    static void outIs(String what, TimeKeeper x, int... bytes) {
        int size = x.size();
        Check.same(what + " size", size, bytes.length);
        for (int i = 0; i < bytes.length && i < size; i++) {
            Check.same(what + " byte " + i, x.out(i), bytes[i]);
        }
    }

    /** What the TAPE holds where a request has its transmit stamp, seen by serving it. */
    static long servedOrigin(TimeKeeper x) {
        Check.holds("serve", x.serve());
        return outStamp(x, 24);
    }

    static void putNumber(TimeKeeper x, int from, int bytes, long v) {
        for (int i = 0; i < bytes; i++) {
            x.put(from + i, (int) (v >>> (8 * (bytes - 1 - i))) & 255);
        }
    }

    static void chosenIs(String what, TimeKeeper x, int candidates, int survivors, int left) {
        Check.same(what + ": candidates", x.chosen(0), candidates);
        Check.same(what + ": survivors", x.chosen(1), survivors);
        Check.same(what + ": left", x.chosen(2), left);
    }

    static void led(TimeKeeper x, long offset, int times) {
        for (int i = 0; i < times; i++) {
            x.pass(1);
            tell(x, 0, offset);
        }
    }
}
