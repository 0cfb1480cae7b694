/**
 * Keeps a clock by what up to eight peers tell it. The words in capitals are those of the document,
 * which also says what each call promises.
 */
public final class TimeKeeper {
    public static final int NONE = -1;

    private static final int PEERS = 8;
    private static final int SAMPLES = 8;
    private static final int TAPE_BYTES = 64;

    private static final int PACKET_BYTES = 48;
    private static final int STRATUM_AT = 1;
    private static final int POLL_AT = 2;
    private static final int PRECISION_AT = 3;
    private static final int ROOT_DELAY_AT = 4;
    private static final int ROOT_DISPERSION_AT = 8;
    private static final int ORIGIN_AT = 24;
    private static final int RECEIVE_AT = 32;
    private static final int TRANSMIT_AT = 40;
    private static final int NUMBER_BYTES = 4;
    private static final int STAMP_BYTES = 8;

    private static final int OUR_PRECISION = 238;
    private static final int OUR_VERSION = 4;
    private static final int MODE_OF_REQUEST = 3;
    private static final int MODE_OF_REPLY = 4;
    private static final int LEAP_UNKNOWN = 3;
    private static final int MOST_STRATUM = 15;

    private static final long PARTS_OF_SECOND = 1L << 32;
    private static final long PARTS_OF_ROOT_NUMBER = 1L << 16;
    private static final long TWICE_MOST_ROOT_DISTANCE = 32L << 16;
    private static final long OFFSET_BOUND = 1L << 40;
    private static final long LEAST_PARTS = 16384;
    private static final long MOST_PARTS = 1L << 36;
    private static final long AGING_OF_SECOND = 64424;
    private static final long DISTANCE_BOUND = 6442450944L;
    private static final long WEIGHT = 1L << 46;
    private static final long GRAIN = 4096;
    private static final long BEYOND_ALL_ENDS = 1L << 62;
    private static final int ENOUGH_SURVIVORS = 3;

    private static final int MOST_SECONDS_PASSED = 4096;
    private static final long MOST_TRAVEL = 1L << 40;
    private static final int MOST_RATE = 2000000;
    private static final long MOST_SLEWED = 549755813;
    private static final int SECONDS_BEFORE_STEP = 300;
    private static final int MOST_SECONDS_LED = 1024;
    private static final int MOST_COUNT = 30;
    private static final int FIRST_POLL = 6;
    private static final int LEAST_POLL = 4;
    private static final int MOST_POLL = 10;

    private final Packet tape;
    private final Packet outgoing;
    private final Timepiece timepiece;
    private final Peer[] peers;
    private final Choice choice;

    public TimeKeeper() {
        tape = new Packet(TAPE_BYTES);
        outgoing = new Packet(PACKET_BYTES);
        timepiece = new Timepiece();
        peers = new Peer[PEERS];
        for (int i = 0; i < PEERS; i++) {
            peers[i] = new Peer();
        }
        choice = new Choice();
    }

    public int type(long w, int n) throws IllegalArgumentException, IllegalStateException {
        if (n < 1 || n > 8) {
            throw new IllegalArgumentException("n is not 1 .. 8");
        }
        if (tape.length + n > TAPE_BYTES) {
            throw new IllegalStateException("the tape has no room");
        }
        for (int i = 0; i < n; i++) {
            tape.append((int) (w >>> (8 * i)) & 255);
        }
        return tape.length;
    }

    public void wipe() {
        tape.length = 0;
    }

    public void put(int i, int v) throws IndexOutOfBoundsException, IllegalArgumentException {
        if (i < 0 || i >= tape.length) {
            throw new IndexOutOfBoundsException("no such byte");
        }
        if (v < 0 || v > 255) {
            throw new IllegalArgumentException("v is not 0 .. 255");
        }
        tape.bytes[i] = v;
    }

    public int pass(int n) throws IllegalArgumentException {
        if (n < 0 || n > MOST_SECONDS_PASSED) {
            throw new IllegalArgumentException("n is not 0 .. 4096");
        }
        timepiece.run(n);
        return timepiece.uptime;
    }

    public long clock() {
        return timepiece.stamp;
    }

    public void set(long stamp) {
        timepiece.stamp = stamp;
    }

    public void drift(int d) throws IllegalArgumentException {
        if (d < -MOST_RATE || d > MOST_RATE) {
            throw new IllegalArgumentException("d is not -2000000 .. 2000000");
        }
        timepiece.drift = d;
    }

    public long request(int peer) throws IndexOutOfBoundsException {
        Peer asked = known(peer);
        asked.ask(timepiece.stamp);
        outgoing.blank(0, OUR_VERSION, MODE_OF_REQUEST);
        outgoing.bytes[POLL_AT] = timepiece.poll;
        outgoing.bytes[PRECISION_AT] = OUR_PRECISION;
        outgoing.write(TRANSMIT_AT, STAMP_BYTES, asked.sent);
        return asked.sent;
    }

    public int hear(int peer) throws IndexOutOfBoundsException {
        Peer teller = known(peer);
        int failed = failedTest(teller);
        if (failed == 0) {
            take(teller);
            boolean isAgreed = teller.hasNews() && choice.choose(peers, timepiece.uptime);
            if (isAgreed && timepiece.lead(choice.offset, choice.jitter)) {
                forgetSamples();
            }
        }
        return failed;
    }

    public boolean serve() {
        if (tape.length != PACKET_BYTES || !tape.isOfKnownVersion() || tape.mode() != MODE_OF_REQUEST) {
            return false;
        }
        boolean unknown = choice.stratum == 0 || choice.stratum > MOST_STRATUM;
        outgoing.blank(unknown ? LEAP_UNKNOWN : 0, tape.version(), MODE_OF_REPLY);
        outgoing.bytes[STRATUM_AT] = unknown ? 0 : choice.stratum;
        outgoing.bytes[POLL_AT] = tape.bytes[POLL_AT];
        outgoing.bytes[PRECISION_AT] = OUR_PRECISION;
        outgoing.write(ORIGIN_AT, STAMP_BYTES, tape.read(TRANSMIT_AT, STAMP_BYTES));
        outgoing.write(RECEIVE_AT, STAMP_BYTES, timepiece.stamp);
        outgoing.write(TRANSMIT_AT, STAMP_BYTES, timepiece.stamp);
        return true;
    }

    public void turn() {
        tape.copy(outgoing);
    }

    public long answer(int peer, int stratum, int rootDelay, int rootDispersion, long offset, long out,
            long held, long back) throws IndexOutOfBoundsException, IllegalArgumentException {
        Peer asker = known(peer);
        if (stratum < 0 || stratum > 255) {
            throw new IllegalArgumentException("stratum is not 0 .. 255");
        }
        if (rootDelay < 0 || rootDispersion < 0) {
            throw new IllegalArgumentException("a root number is below 0");
        }
        if (!isTravel(out) || !isTravel(held) || !isTravel(back)) {
            throw new IllegalArgumentException("out, held or back is not 0 .. 2^40");
        }
        long received = asker.sent + offset + out;
        tape.blank(0, OUR_VERSION, MODE_OF_REPLY);
        tape.bytes[STRATUM_AT] = stratum;
        tape.write(ROOT_DELAY_AT, NUMBER_BYTES, rootDelay);
        tape.write(ROOT_DISPERSION_AT, NUMBER_BYTES, rootDispersion);
        tape.write(ORIGIN_AT, STAMP_BYTES, asker.sent);
        tape.write(RECEIVE_AT, STAMP_BYTES, received);
        tape.write(TRANSMIT_AT, STAMP_BYTES, received + held);
        timepiece.stamp += out + held + back;
        return timepiece.stamp;
    }

    public long peer(int peer, int what)
            throws IndexOutOfBoundsException, IllegalArgumentException, IllegalStateException {
        Peer shown = known(peer);
        if (what < 0 || what > 9) {
            throw new IllegalArgumentException("what is not 0 .. 9");
        }
        if (what >= 2 && what <= 6 && shown.count == 0) {
            throw new IllegalStateException("the peer has no sample");
        }
        switch (what) {
            case 0: return shown.sent;
            case 1: return shown.last;
            case 2: return shown.offsetAt(0);
            case 3: return shown.delayAt(0);
            case 4: return shown.dispersion(timepiece.uptime);
            case 5: return shown.jitter;
            case 6: return shown.distance(timepiece.uptime);
            case 7: return shown.count;
            case 8: return shown.reach;
            default: return shown.stratum;
        }
    }

    public long sample(int peer, int i, int what) throws IndexOutOfBoundsException, IllegalArgumentException {
        Peer shown = known(peer);
        if (i < 0 || i >= shown.count) {
            throw new IndexOutOfBoundsException("no such sample");
        }
        switch (what) {
            case 0: return shown.offsetAt(i);
            case 1: return shown.delayAt(i);
            case 2: return shown.dispersionAt(i, timepiece.uptime);
            default: throw new IllegalArgumentException("what is not 0 .. 2");
        }
    }

    public int chosen(int what) throws IllegalArgumentException {
        switch (what) {
            case 0: return choice.candidates;
            case 1: return choice.survivors;
            case 2: return choice.left;
            default: throw new IllegalArgumentException("what is not 0 .. 2");
        }
    }

    public long about(int what) throws IllegalArgumentException, IllegalStateException {
        if (what < 0 || what > 10) {
            throw new IllegalArgumentException("what is not 0 .. 10");
        }
        if (what <= 4 && !choice.isMade) {
            throw new IllegalStateException("no update had survivors yet");
        }
        switch (what) {
            case 0: return choice.offset;
            case 1: return choice.jitter;
            case 2: return choice.stratum;
            case 3: return choice.low;
            case 4: return choice.high;
            case 5: return timepiece.rate;
            case 6: return timepiece.rest;
            case 7: return timepiece.poll;
            case 8: return timepiece.count;
            case 9: return timepiece.timesStepped;
            default: return timepiece.timesLed;
        }
    }

    public int size() {
        return outgoing.length;
    }

    public int out(int i) throws IndexOutOfBoundsException {
        if (i < 0 || i >= outgoing.length) {
            throw new IndexOutOfBoundsException("no such byte");
        }
        return outgoing.bytes[i];
    }

    private Peer known(int number) {
        if (number < 0 || number >= PEERS) {
            throw new IndexOutOfBoundsException("no such peer");
        }
        return peers[number];
    }

    private static boolean isTravel(long parts) {
        return parts >= 0 && parts <= MOST_TRAVEL;
    }

    /** The number of the first test that the TAPE fails as a REPLY, 0 if it passes all. */
    private int failedTest(Peer teller) {
        if (tape.length != PACKET_BYTES) {
            return 1;
        }
        if (!tape.isOfKnownVersion() || tape.mode() != MODE_OF_REPLY) {
            return 2;
        }
        long transmitted = tape.read(TRANSMIT_AT, STAMP_BYTES);
        if (transmitted == teller.last && transmitted != 0) {
            return 3;
        }
        if (teller.sent == 0 || tape.read(ORIGIN_AT, STAMP_BYTES) != teller.sent) {
            return 4;
        }
        if (tape.read(RECEIVE_AT, STAMP_BYTES) == 0 || transmitted == 0) {
            return 5;
        }
        int stratum = tape.bytes[STRATUM_AT];
        if (tape.leap() == LEAP_UNKNOWN || stratum == 0 || stratum > MOST_STRATUM) {
            return 6;
        }
        if (tape.twiceRootDistance() > TWICE_MOST_ROOT_DISTANCE) {
            return 7;
        }
        long offset = toldOffset(teller);
        return offset <= -OFFSET_BOUND || offset >= OFFSET_BOUND ? 8 : 0;
    }

    private long toldOffset(Peer teller) {
        long there = tape.read(RECEIVE_AT, STAMP_BYTES) - teller.sent;
        long back = tape.read(TRANSMIT_AT, STAMP_BYTES) - timepiece.stamp;
        return Math.floorDiv(there + back, 2L);
    }

    private long toldDelay(Peer teller) {
        long away = timepiece.stamp - teller.sent;
        long held = tape.read(TRANSMIT_AT, STAMP_BYTES) - tape.read(RECEIVE_AT, STAMP_BYTES);
        return Math.max(LEAST_PARTS, Math.min(MOST_PARTS, away - held));
    }

    private void take(Peer teller) {
        teller.addSample(toldOffset(teller), toldDelay(teller), timepiece.uptime);
        teller.last = tape.read(TRANSMIT_AT, STAMP_BYTES);
        teller.stratum = tape.bytes[STRATUM_AT];
        teller.rootDelay = tape.read(ROOT_DELAY_AT, NUMBER_BYTES) * PARTS_OF_ROOT_NUMBER;
        teller.rootDispersion = tape.read(ROOT_DISPERSION_AT, NUMBER_BYTES) * PARTS_OF_ROOT_NUMBER;
        teller.sent = 0;
        teller.reach |= 1;
    }

    /** What was told and asked before a step is of a clock that is no more. */
    private void forgetSamples() {
        for (int i = 0; i < PEERS; i++) {
            peers[i].count = 0;
            peers[i].sent = 0;
        }
    }

    /** ROOT, for numbers below 2^62, as SPREAD has them: so no square here wraps. */
    private static long root(long a) {
        long found = 0;
        for (int bit = 30; bit >= 0; bit--) {
            long tried = found + (1L << bit);
            if (tried * tried <= a) {
                found = tried;
            }
        }
        return found;
    }

    /** SPREAD of the differences of the first n numbers to a base, without that at one place (NONE: of all). */
    private static long spread(long[] numbers, int n, long base, int without) {
        long squares = 0;
        int counted = 0;
        for (int i = 0; i < n; i++) {
            if (i != without) {
                long grains = Math.floorDiv(numbers[i] - base, GRAIN);
                squares += grains * grains;
                counted++;
            }
        }
        return counted == 0 ? 0 : GRAIN * root(squares / counted);
    }

    /** Bytes in a row of its own: the TAPE, and OUT. */
    private static final class Packet {
        final int[] bytes;
        int length;

        Packet(int room) {
            bytes = new int[room];
        }

        void append(int v) {
            bytes[length] = v;
            length++;
        }

        void copy(Packet other) {
            System.arraycopy(other.bytes, 0, bytes, 0, other.length);
            length = other.length;
        }

        void blank(int leap, int version, int mode) {
            length = PACKET_BYTES;
            for (int i = 1; i < PACKET_BYTES; i++) {
                bytes[i] = 0;
            }
            bytes[0] = 64 * leap + 8 * version + mode;
        }

        void write(int from, int n, long v) {
            for (int i = 0; i < n; i++) {
                bytes[from + i] = (int) (v >>> (8 * (n - 1 - i))) & 255;
            }
        }

        long read(int from, int n) {
            long v = 0;
            for (int i = 0; i < n; i++) {
                v = (v << 8) | bytes[from + i];
            }
            return v;
        }

        int leap() {
            return bytes[0] >> 6;
        }

        int version() {
            return (bytes[0] >> 3) & 7;
        }

        int mode() {
            return bytes[0] & 7;
        }

        boolean isOfKnownVersion() {
            return version() >= 1 && version() <= OUR_VERSION;
        }

        /** Twice, so that half an odd root delay is exact. */
        long twiceRootDistance() {
            return read(ROOT_DELAY_AT, NUMBER_BYTES) + 2 * read(ROOT_DISPERSION_AT, NUMBER_BYTES);
        }
    }

    /** THE CLOCK, and how it is led. */
    private static final class Timepiece {
        long stamp;
        int uptime;
        int drift;
        long rate;
        long rest;
        int poll;
        int count;
        int ledAt;
        int timesLed;
        int timesStepped;

        Timepiece() {
            poll = FIRST_POLL;
            ledAt = NONE;
        }

        void run(int seconds) {
            long plainSecond = PARTS_OF_SECOND + drift + rate;
            for (int i = 0; i < seconds && rest != 0; i++) {
                long part = rest / 64;
                long gained = part == 0 ? rest : part;
                stamp += gained;
                rest -= gained;
            }
            stamp += seconds * plainSecond;
            uptime += seconds;
        }

        /** THE CLOCK IS LED: whether by a step. */
        boolean lead(long offset, long jitter) {
            if (Math.abs(offset) > MOST_SLEWED) {
                return step(offset);
            }
            long gained = offset * Math.min(MOST_SECONDS_LED, secondsSinceLed());
            long grown = rate + (gained >> (2 * poll + 4));
            rate = Math.max(-MOST_RATE, Math.min(MOST_RATE, grown));
            rest = offset;
            markLed();
            judge(Math.abs(offset) < 4 * jitter);
            return false;
        }

        private boolean step(long offset) {
            if (ledAt != NONE && secondsSinceLed() < SECONDS_BEFORE_STEP) {
                return false;
            }
            stamp += offset;
            rest = 0;
            rate = 0;
            timesStepped++;
            markLed();
            return true;
        }

        private int secondsSinceLed() {
            return ledAt == NONE ? 0 : uptime - ledAt;
        }

        private void markLed() {
            ledAt = uptime;
            timesLed++;
        }

        private void judge(boolean isCalm) {
            count += isCalm ? poll : -2 * poll;
            if (count > MOST_COUNT) {
                count = 0;
                poll = Math.min(MOST_POLL, poll + 1);
            } else if (count < -MOST_COUNT) {
                count = 0;
                poll = Math.max(LEAST_POLL, poll - 1);
            }
        }
    }

    /** One who tells the time, and the latest SAMPLES of it. */
    private static final class Peer {
        long sent;
        long last;
        int reach;
        int stratum;
        long rootDelay;
        long rootDispersion;
        int count;
        // Samples do not age in it, so it stays from one sample to the next.
        long jitter;
        // The samples stand here with the latest one first; THE ORDER has their places.
        private final long[] offsets;
        private final long[] delays;
        private final long[] dispersions;
        private final int[] times;
        private final int[] order;
        // Of the FIRST sample in the latest update that looked here; a step leaves it.
        private int timeLookedAt;

        Peer() {
            offsets = new long[SAMPLES];
            delays = new long[SAMPLES];
            dispersions = new long[SAMPLES];
            times = new int[SAMPLES];
            order = new int[SAMPLES];
            timeLookedAt = NONE;
        }

        void ask(long stamp) {
            reach = (reach << 1) & 255;
            sent = stamp == 0 ? 1 : stamp;
        }

        void addSample(long offset, long delay, int uptime) {
            count = Math.min(SAMPLES, count + 1);
            for (int i = count - 1; i > 0; i--) {
                offsets[i] = offsets[i - 1];
                delays[i] = delays[i - 1];
                dispersions[i] = dispersions[i - 1];
                times[i] = times[i - 1];
            }
            offsets[0] = offset;
            delays[0] = delay;
            dispersions[0] = LEAST_PARTS + delay / 65536;
            times[0] = uptime;
            sortSamples();
            jitter = Math.max(LEAST_PARTS, spread(offsets, count, offsetAt(0), order[0]));
        }

        private void sortSamples() {
            for (int i = 0; i < count; i++) {
                int place = i;
                for (; place > 0 && delays[order[place - 1]] > delays[i]; place--) {
                    order[place] = order[place - 1];
                }
                order[place] = i;
            }
        }

        /** Whether an UPDATE is due, which then has looked at this peer. */
        boolean hasNews() {
            int time = times[order[0]];
            if (time <= timeLookedAt) {
                return false;
            }
            timeLookedAt = time;
            return true;
        }

        long offsetAt(int place) {
            return offsets[order[place]];
        }

        long delayAt(int place) {
            return delays[order[place]];
        }

        long dispersionAt(int place, int uptime) {
            int i = order[place];
            return Math.min(MOST_PARTS, dispersions[i] + AGING_OF_SECOND * (uptime - times[i]));
        }

        long dispersion(int uptime) {
            long sum = 0;
            for (int place = 0; place < SAMPLES; place++) {
                long there = place < count ? dispersionAt(place, uptime) : MOST_PARTS;
                sum += there >> (place + 1);
            }
            return sum;
        }

        long distance(int uptime) {
            long whole = Math.max(LEAST_PARTS, rootDelay + delayAt(0));
            return whole / 2 + rootDispersion + dispersion(uptime) + jitter;
        }
    }

    /** Peers side by side, as an UPDATE weighs them: first all candidates, at the end those that are left. */
    private static final class Row {
        final int[] numbers;
        final int[] strata;
        final long[] offsets;
        final long[] distances;
        final long[] jitters;
        int length;

        Row() {
            numbers = new int[PEERS];
            strata = new int[PEERS];
            offsets = new long[PEERS];
            distances = new long[PEERS];
            jitters = new long[PEERS];
        }

        void gather(Peer[] peers, int uptime) {
            length = 0;
            for (int number = 0; number < PEERS; number++) {
                Peer one = peers[number];
                boolean isHeard = one.count > 0 && one.reach != 0;
                long distance = isHeard ? one.distance(uptime) : DISTANCE_BOUND;
                if (distance < DISTANCE_BOUND) {
                    numbers[length] = number;
                    strata[length] = one.stratum;
                    offsets[length] = one.offsetAt(0);
                    distances[length] = distance;
                    jitters[length] = one.jitter;
                    length++;
                }
            }
        }

        int bits() {
            int bits = 0;
            for (int i = 0; i < length; i++) {
                bits |= 1 << numbers[i];
            }
            return bits;
        }

        long lower(int i) {
            return offsets[i] - distances[i];
        }

        long upper(int i) {
            return offsets[i] + distances[i];
        }

        int intervalsAround(long end) {
            int found = 0;
            for (int i = 0; i < length; i++) {
                if (lower(i) <= end && end <= upper(i)) {
                    found++;
                }
            }
            return found;
        }

        int offsetsWithin(long low, long high) {
            int found = 0;
            for (int i = 0; i < length; i++) {
                if (low <= offsets[i] && offsets[i] <= high) {
                    found++;
                }
            }
            return found;
        }

        void keepWithin(long low, long high) {
            for (int i = length - 1; i >= 0; i--) {
                if (offsets[i] < low || offsets[i] > high) {
                    remove(i);
                }
            }
        }

        void remove(int place) {
            length--;
            for (int i = place; i < length; i++) {
                numbers[i] = numbers[i + 1];
                strata[i] = strata[i + 1];
                offsets[i] = offsets[i + 1];
                distances[i] = distances[i + 1];
                jitters[i] = jitters[i + 1];
            }
        }

        /** Moves only what is greater, so that equals stay by number. */
        void sortByRank() {
            for (int i = 1; i < length; i++) {
                for (int place = i; place > 0 && rank(place - 1) > rank(place); place--) {
                    swapWithNext(place - 1);
                }
            }
        }

        private long rank(int i) {
            return strata[i] * DISTANCE_BOUND + distances[i];
        }

        private void swapWithNext(int i) {
            swap(numbers, i);
            swap(strata, i);
            swap(offsets, i);
            swap(distances, i);
            swap(jitters, i);
        }

        private static void swap(int[] row, int i) {
            int kept = row[i];
            row[i] = row[i + 1];
            row[i + 1] = kept;
        }

        private static void swap(long[] row, int i) {
            long kept = row[i];
            row[i] = row[i + 1];
            row[i + 1] = kept;
        }

        long spreadAround(int i) {
            return spread(offsets, length, offsets[i], i);
        }

        /** Of the same the last place. */
        int placeOfGreatestSpread() {
            int found = 0;
            long greatest = spreadAround(0);
            for (int i = 1; i < length; i++) {
                long here = spreadAround(i);
                if (here >= greatest) {
                    greatest = here;
                    found = i;
                }
            }
            return found;
        }

        long leastJitter() {
            long least = jitters[0];
            for (int i = 1; i < length; i++) {
                least = Math.min(least, jitters[i]);
            }
            return least;
        }

        long meanOffset() {
            long sum = 0;
            long weights = 0;
            for (int i = 0; i < length; i++) {
                long weight = distances[i] > 0 ? WEIGHT / distances[i] : 0;
                sum += Math.floorDiv(offsets[i], GRAIN) * weight;
                weights += weight;
            }
            return weights > 0 ? Math.floorDiv(sum, weights) * GRAIN : 0;
        }
    }

    /** What the latest UPDATE found, and the latest one that had survivors. */
    private static final class Choice {
        private final Row row;
        int candidates;
        int survivors;
        int left;
        boolean isMade;
        long offset;
        long jitter;
        int stratum;
        long low;
        long high;

        Choice() {
            row = new Row();
        }

        /** Whether there are survivors. */
        boolean choose(Peer[] peers, int uptime) {
            row.gather(peers, uptime);
            candidates = row.bits();
            survivors = 0;
            left = 0;
            if (!findAgreement()) {
                return false;
            }
            row.keepWithin(low, high);
            survivors = row.bits();
            row.sortByRank();
            thinOut();
            left = row.bits();
            conclude();
            return true;
        }

        private boolean findAgreement() {
            for (int liars = 0; 2 * liars < row.length; liars++) {
                if (agreeBut(liars)) {
                    return true;
                }
            }
            return false;
        }

        private boolean agreeBut(int liars) {
            int needed = row.length - liars;
            long least = BEYOND_ALL_ENDS;
            long greatest = -BEYOND_ALL_ENDS;
            for (int i = 0; i < row.length; i++) {
                if (row.intervalsAround(row.lower(i)) >= needed) {
                    least = Math.min(least, row.lower(i));
                }
                if (row.intervalsAround(row.upper(i)) >= needed) {
                    greatest = Math.max(greatest, row.upper(i));
                }
            }
            // Where no end was found, the least one is still above the greatest.
            if (least > greatest || row.offsetsWithin(least, greatest) < needed) {
                return false;
            }
            low = least;
            high = greatest;
            return true;
        }

        private void thinOut() {
            for (int i = 0; i < PEERS && row.length > ENOUGH_SURVIVORS; i++) {
                int place = row.placeOfGreatestSpread();
                if (row.spreadAround(place) < row.leastJitter()) {
                    return;
                }
                row.remove(place);
            }
        }

        private void conclude() {
            offset = row.meanOffset();
            jitter = Math.max(row.jitters[0], spread(row.offsets, row.length, offset, NONE));
            stratum = row.strata[0] + 1;
            isMade = true;
        }
    }
}
