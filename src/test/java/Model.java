import java.math.BigInteger;
import java.util.ArrayList;
import java.util.Comparator;
import java.util.List;

/** The document told a second time, with exact numbers and lists, to be compared with the program. */
final class Model {
    private static final BigInteger GRAIN = BigInteger.valueOf(4096);
    private static final BigInteger MOST = BigInteger.TWO.pow(36);
    private static final BigInteger BOUND = BigInteger.valueOf(6442450944L);

    private static final class Sample {
        BigInteger offset;
        BigInteger delay;
        BigInteger dispersion;
        int uptime;
        int serial;
    }

    private static final class Source {
        int number;
        long sent;
        long last;
        int reach;
        int stratum;
        BigInteger rootDelay = BigInteger.ZERO;
        BigInteger rootDispersion = BigInteger.ZERO;
        final List<Sample> samples = new ArrayList<>();
        Integer firstLookedAt;
    }

    private List<Integer> tape = new ArrayList<>();
    private List<Integer> out = new ArrayList<>();
    private long clock;
    private int uptime;
    private int drift;
    private long rate;
    private long rest;
    private int poll = 6;
    private int count;
    private int steps;
    private int leads;
    private Integer ledAt;
    private int serial;
    private final List<Source> sources = new ArrayList<>();
    private final int[] chosen = new int[3];
    private BigInteger[] told;

    Model() {
        for (int i = 0; i < 8; i++) {
            Source s = new Source();
            s.number = i;
            sources.add(s);
        }
    }

    // ---- numbers

    private static BigInteger big(long v) {
        return BigInteger.valueOf(v);
    }

    private static BigInteger floor(BigInteger a, BigInteger b) {
        BigInteger[] qr = a.divideAndRemainder(b);
        return qr[1].signum() != 0 && qr[1].signum() != b.signum() ? qr[0].subtract(BigInteger.ONE) : qr[0];
    }

    private static BigInteger spread(List<BigInteger> differences) {
        if (differences.isEmpty()) {
            return BigInteger.ZERO;
        }
        BigInteger squares = BigInteger.ZERO;
        for (BigInteger d : differences) {
            squares = squares.add(floor(d, GRAIN).pow(2));
        }
        return squares.divide(big(differences.size())).sqrt().multiply(GRAIN);
    }

    // ---- the calls

    int type(long w, int n) {
        if (n < 1 || n > 8) throw new IllegalArgumentException();
        if (tape.size() + n > 64) throw new IllegalStateException();
        for (int i = 0; i < n; i++) {
            tape.add((int) (w >> 8 * i & 255));
        }
        return tape.size();
    }

    void wipe() {
        tape = new ArrayList<>();
    }

    void put(int i, int v) {
        if (i < 0 || i >= tape.size()) throw new IndexOutOfBoundsException();
        if (v < 0 || v > 255) throw new IllegalArgumentException();
        tape.set(i, v);
    }

    int pass(int n) {
        if (n < 0 || n > 4096) throw new IllegalArgumentException();
        for (int i = 0; i < n; i++) {
            long g = rest / 64;
            if (g == 0) g = rest;
            clock += 4294967296L + drift + rate + g;
            rest -= g;
            uptime++;
        }
        return uptime;
    }

    long clock() {
        return clock;
    }

    void set(long stamp) {
        clock = stamp;
    }

    void drift(int d) {
        if (d < -2000000 || d > 2000000) throw new IllegalArgumentException();
        drift = d;
    }

    private Source source(int peer) {
        if (peer < 0 || peer > 7) throw new IndexOutOfBoundsException();
        return sources.get(peer);
    }

    private static List<Integer> packet(int[] head, BigInteger[] roots, long[] stamps) {
        List<Integer> bytes = new ArrayList<>();
        for (int v : head) {
            bytes.add(v);
        }
        for (BigInteger root : roots) {
            for (int shift = 24; shift >= 0; shift -= 8) {
                bytes.add(root.shiftRight(shift).intValue() & 255);
            }
        }
        for (int i = 0; i < 12; i++) {
            bytes.add(0);
        }
        for (long stamp : stamps) {
            for (int shift = 56; shift >= 0; shift -= 8) {
                bytes.add((int) (stamp >>> shift) & 255);
            }
        }
        return bytes;
    }

    private static final BigInteger[] NO_ROOTS = {BigInteger.ZERO, BigInteger.ZERO};

    long request(int peer) {
        Source s = source(peer);
        s.reach = s.reach * 2 % 256;
        s.sent = clock == 0 ? 1 : clock;
        out = packet(new int[] {35, 0, poll, 238}, NO_ROOTS, new long[] {0, 0, s.sent});
        return s.sent;
    }

    private BigInteger told(int from, int to) {
        BigInteger v = BigInteger.ZERO;
        for (int i = from; i <= to; i++) {
            v = v.multiply(big(256)).add(big(tape.get(i)));
        }
        return v;
    }

    int hear(int peer) {
        Source s = source(peer);
        if (tape.size() != 48) return 1;
        int leap = tape.get(0) / 64;
        int version = tape.get(0) / 8 % 8;
        int mode = tape.get(0) % 8;
        if (version < 1 || version > 4 || mode != 4) return 2;
        long origin = told(24, 31).longValue();
        long receive = told(32, 39).longValue();
        long transmit = told(40, 47).longValue();
        if (transmit != 0 && transmit == s.last) return 3;
        if (s.sent == 0 || origin != s.sent) return 4;
        if (receive == 0 || transmit == 0) return 5;
        int stratum = tape.get(1);
        if (leap == 3 || stratum < 1 || stratum > 15) return 6;
        BigInteger rootDelay = told(4, 7);
        BigInteger rootDispersion = told(8, 11);
        if (rootDelay.add(rootDispersion.shiftLeft(1)).compareTo(big(32 * 65536)) > 0) return 7;
        long sum = (receive - s.sent) + (transmit - clock);
        BigInteger offset = floor(big(sum), BigInteger.TWO);
        if (offset.abs().compareTo(BigInteger.TWO.pow(40)) >= 0) return 8;
        BigInteger delay = big((clock - s.sent) - (transmit - receive)).max(big(16384)).min(MOST);
        s.last = transmit;
        s.stratum = stratum;
        s.rootDelay = rootDelay.multiply(big(65536));
        s.rootDispersion = rootDispersion.multiply(big(65536));
        s.sent = 0;
        s.reach |= 1;
        Sample taken = new Sample();
        taken.offset = offset;
        taken.delay = delay;
        taken.dispersion = big(16384).add(delay.divide(big(65536)));
        taken.uptime = uptime;
        taken.serial = serial++;
        s.samples.add(taken);
        if (s.samples.size() > 8) s.samples.remove(0);
        int first = order(s).get(0).uptime;
        if (s.firstLookedAt == null || first > s.firstLookedAt) {
            s.firstLookedAt = first;
            update();
        }
        return 0;
    }

    boolean serve() {
        if (tape.size() != 48) return false;
        int version = tape.get(0) / 8 % 8;
        if (version < 1 || version > 4 || tape.get(0) % 8 != 3) return false;
        int stratum = told == null ? 0 : told[2].intValue();
        if (stratum > 15) stratum = 0;
        int first = 8 * version + 4 + (stratum == 0 ? 192 : 0);
        out = packet(new int[] {first, stratum, tape.get(2), 238}, NO_ROOTS,
            new long[] {told(40, 47).longValue(), clock, clock});
        return true;
    }

    void turn() {
        tape = new ArrayList<>(out);
    }

    long answer(int peer, int stratum, int rootDelay, int rootDispersion, long offset, long out, long held, long back) {
        Source s = source(peer);
        if (stratum < 0 || stratum > 255 || rootDelay < 0 || rootDispersion < 0) throw new IllegalArgumentException();
        for (long way : new long[] {out, held, back}) {
            if (way < 0 || way > 1L << 40) throw new IllegalArgumentException();
        }
        long receive = s.sent + offset + out;
        tape = packet(new int[] {36, stratum, 0, 0}, new BigInteger[] {big(rootDelay), big(rootDispersion)},
            new long[] {s.sent, receive, receive + held});
        clock += out + held + back;
        return clock;
    }

    long peer(int peer, int what) {
        Source s = source(peer);
        if (what < 0 || what > 9) throw new IllegalArgumentException();
        if (what >= 2 && what <= 6 && s.samples.isEmpty()) throw new IllegalStateException();
        switch (what) {
            case 0: return s.sent;
            case 1: return s.last;
            case 2: return offset(s).longValueExact();
            case 3: return order(s).get(0).delay.longValueExact();
            case 4: return dispersion(s).longValueExact();
            case 5: return jitter(s).longValueExact();
            case 6: return distance(s).longValueExact();
            case 7: return s.samples.size();
            case 8: return s.reach;
            default: return s.stratum;
        }
    }

    long sample(int peer, int i, int what) {
        Source s = source(peer);
        if (i < 0 || i >= s.samples.size()) throw new IndexOutOfBoundsException();
        if (what < 0 || what > 2) throw new IllegalArgumentException();
        Sample at = order(s).get(i);
        return (what == 0 ? at.offset : what == 1 ? at.delay : now(at)).longValueExact();
    }

    int chosen(int what) {
        if (what < 0 || what > 2) throw new IllegalArgumentException();
        return chosen[what];
    }

    long about(int what) {
        if (what < 0 || what > 10) throw new IllegalArgumentException();
        if (what < 5 && told == null) throw new IllegalStateException();
        if (what < 5) return told[what].longValueExact();
        return new long[] {rate, rest, poll, count, steps, leads}[what - 5];
    }

    int size() {
        return out.size();
    }

    int out(int i) {
        if (i < 0 || i >= out.size()) throw new IndexOutOfBoundsException();
        return out.get(i);
    }

    // ---- what a peer tells

    private static List<Sample> order(Source s) {
        List<Sample> sorted = new ArrayList<>(s.samples);
        sorted.sort(Comparator.comparing((Sample a) -> a.delay).thenComparing(a -> -a.serial));
        return sorted;
    }

    private BigInteger now(Sample s) {
        return s.dispersion.add(big(64424).multiply(big(uptime - s.uptime))).min(MOST);
    }

    private static BigInteger offset(Source s) {
        return order(s).get(0).offset;
    }

    private BigInteger dispersion(Source s) {
        List<Sample> sorted = order(s);
        BigInteger sum = BigInteger.ZERO;
        for (int i = 0; i < 8; i++) {
            BigInteger here = i < sorted.size() ? now(sorted.get(i)) : MOST;
            sum = sum.add(here.divide(BigInteger.TWO.pow(i + 1)));
        }
        return sum;
    }

    private static BigInteger jitter(Source s) {
        List<Sample> sorted = order(s);
        List<BigInteger> differences = new ArrayList<>();
        for (Sample other : sorted.subList(1, sorted.size())) {
            differences.add(other.offset.subtract(sorted.get(0).offset));
        }
        return spread(differences).max(big(16384));
    }

    private BigInteger distance(Source s) {
        BigInteger whole = s.rootDelay.add(order(s).get(0).delay).max(big(16384));
        return whole.divide(BigInteger.TWO).add(s.rootDispersion).add(dispersion(s)).add(jitter(s));
    }

    // ---- an update

    private static int bits(List<Source> some) {
        int bits = 0;
        for (Source s : some) {
            bits |= 1 << s.number;
        }
        return bits;
    }

    private void update() {
        List<Source> candidates = new ArrayList<>();
        for (Source s : sources) {
            if (!s.samples.isEmpty() && s.reach != 0 && distance(s).compareTo(BOUND) < 0) candidates.add(s);
        }
        chosen[0] = bits(candidates);
        chosen[1] = 0;
        chosen[2] = 0;
        for (int f = 0; 2 * f < candidates.size(); f++) {
            BigInteger[] ends = ends(candidates, candidates.size() - f);
            if (ends == null) continue;
            List<Source> inside = new ArrayList<>();
            for (Source s : candidates) {
                if (offset(s).compareTo(ends[0]) >= 0 && offset(s).compareTo(ends[1]) <= 0) inside.add(s);
            }
            if (candidates.size() - inside.size() <= f) {
                chosen[1] = bits(inside);
                combine(thinned(inside), ends);
                return;
            }
        }
    }

    private BigInteger[] ends(List<Source> candidates, int needed) {
        List<BigInteger> lows = new ArrayList<>();
        List<BigInteger> highs = new ArrayList<>();
        for (Source s : candidates) {
            BigInteger low = offset(s).subtract(distance(s));
            BigInteger high = offset(s).add(distance(s));
            if (around(candidates, low) >= needed) lows.add(low);
            if (around(candidates, high) >= needed) highs.add(high);
        }
        if (lows.isEmpty() || highs.isEmpty()) return null;
        BigInteger l = lows.stream().min(Comparator.naturalOrder()).get();
        BigInteger h = highs.stream().max(Comparator.naturalOrder()).get();
        return l.compareTo(h) > 0 ? null : new BigInteger[] {l, h};
    }

    private int around(List<Source> candidates, BigInteger end) {
        int n = 0;
        for (Source s : candidates) {
            if (offset(s).subtract(end).abs().compareTo(distance(s)) <= 0) n++;
        }
        return n;
    }

    private List<Source> thinned(List<Source> inside) {
        List<Source> row = new ArrayList<>(inside);
        row.sort(Comparator.comparing((Source s) -> big(s.stratum).multiply(BOUND).add(distance(s))).thenComparing(s -> s.number));
        while (row.size() > 3) {
            BigInteger greatest = BigInteger.ZERO;
            BigInteger least = null;
            Source goes = null;
            for (Source one : row) {
                List<BigInteger> differences = new ArrayList<>();
                for (Source other : row) {
                    if (other != one) differences.add(offset(other).subtract(offset(one)));
                }
                BigInteger s = spread(differences);
                if (goes == null || s.compareTo(greatest) >= 0) {
                    greatest = s;
                    goes = one;
                }
                least = least == null ? jitter(one) : least.min(jitter(one));
            }
            if (greatest.compareTo(least) < 0) break;
            row.remove(goes);
        }
        return row;
    }

    private void combine(List<Source> row, BigInteger[] ends) {
        chosen[2] = bits(row);
        BigInteger sum = BigInteger.ZERO;
        BigInteger weights = BigInteger.ZERO;
        for (Source s : row) {
            BigInteger w = BigInteger.TWO.pow(46).divide(distance(s));
            sum = sum.add(floor(offset(s), GRAIN).multiply(w));
            weights = weights.add(w);
        }
        BigInteger mean = floor(sum, weights).multiply(GRAIN);
        List<BigInteger> differences = new ArrayList<>();
        for (Source s : row) {
            differences.add(offset(s).subtract(mean));
        }
        BigInteger jitter = jitter(row.get(0)).max(spread(differences));
        told = new BigInteger[] {mean, jitter, big(row.get(0).stratum + 1), ends[0], ends[1]};
        lead(mean.longValueExact(), jitter.longValueExact());
    }

    private void lead(long o, long jitter) {
        int since = ledAt == null ? 0 : uptime - ledAt;
        if (Math.abs(o) > 549755813) {
            if (ledAt != null && since < 300) return;
            clock += o;
            rest = 0;
            rate = 0;
            for (Source s : sources) {
                s.samples.clear();
                s.sent = 0;
            }
            steps++;
        } else {
            int u = Math.min(since, 1024);
            BigInteger grown = big(rate).add(floor(big(o).multiply(big(u)), BigInteger.TWO.pow(2 * poll + 4)));
            rate = grown.max(big(-2000000)).min(big(2000000)).longValueExact();
            rest = o;
            if (Math.abs(o) < 4 * jitter) count += poll;
            else count -= 2 * poll;
            if (count > 30) {
                count = 0;
                poll = poll < 10 ? poll + 1 : 10;
            }
            if (count < -30) {
                count = 0;
                poll = poll > 4 ? poll - 1 : 4;
            }
        }
        ledAt = uptime;
        leads++;
    }
}
