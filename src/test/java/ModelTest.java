import java.util.Random;
import java.util.function.LongSupplier;

/**
 * Random runs of some 512 calls, the same on the program and on the model: every answer must be the same.
 * Looks at what a call left behind are not counted as calls: the program keeps no count that they could move.
 */
public final class ModelTest {
    private static final int RUNS = 1500;
    private static final int CALLS = 512;

    private final Random random;
    private final TimeKeeper program = new TimeKeeper();
    private final Model model = new Model();
    private final String name;
    private final long[] lies = new long[8];
    private final int[] strata = new int[8];
    private final int rootMost;
    private final long noise;
    private final long wayMost;
    private final int secondsMost;
    private final int peersAsked;
    private final double wildness;
    private int calls = 0;

    // How often the runs reached what they are for, so that a change of theirs can't make them idle.
    private static long updates = 0;
    private static long thinned = 0;
    private static long liars = 0;
    private static long steps = 0;
    private static long pollsMoved = 0;

    private ModelTest(long seed) {
        random = new Random(seed);
        name = "run " + seed;
        long[] scales = {0, 1 << 12, 1 << 16, 1 << 20, 1 << 26, 1L << 30, 1L << 33, 1L << 41};
        long common = about(scales[random.nextInt(scales.length)]);
        long apart = scales[random.nextInt(7)];
        int liarsOfEight = random.nextInt(4);
        for (int i = 0; i < 8; i++) {
            boolean lies = random.nextInt(8) < liarsOfEight;
            this.lies[i] = common + about(lies ? 1L << 33 : apart);
            strata[i] = 1 + random.nextInt(random.nextBoolean() ? 3 : 15);
        }
        noise = scales[random.nextInt(6)];
        wayMost = 1L << 10 + random.nextInt(22);
        rootMost = 1 << random.nextInt(17);
        secondsMost = 1 << random.nextInt(12);
        peersAsked = 1 + random.nextInt(8);
        wildness = random.nextInt(3) == 0 ? 0.5 : 0.04;
    }

    public static void main(String[] args) {
        for (int seed = 1; seed <= RUNS && Check.wrongSoFar() < 20; seed++) {
            new ModelTest(seed).run();
        }
        Check.holds("there were many updates: " + updates, updates > 20000);
        Check.holds("there were many that went from the row: " + thinned, thinned > 2000);
        Check.holds("there were many outside L .. H: " + liars, liars > 2000);
        Check.holds("there were many steps: " + steps, steps > 200);
        Check.holds("POLL moved often: " + pollsMoved, pollsMoved > 200);
        Check.end("ModelTest");
    }

    private long about(long scale) {
        return scale == 0 ? 0 : (long) ((random.nextDouble() * 2 - 1) * scale);
    }

    private void run() {
        if (random.nextBoolean()) {
            long stamp = random.nextInt(4) == 0 ? Long.MAX_VALUE - random.nextInt(1000000) : random.nextLong();
            void_("set(" + stamp + ")", () -> program.set(stamp), () -> model.set(stamp));
        }
        int before = Check.wrongSoFar();
        while (calls < CALLS && Check.wrongSoFar() == before) {
            if (random.nextDouble() < wildness) {
                wildCall();
            } else {
                telling(random.nextInt(peersAsked));
            }
            if (random.nextInt(4) == 0) {
                look();
            }
        }
        steps += model.about(9);
        pollsMoved += model.about(7) != 6 ? 1 : 0;
    }

    // ---- one call on both

    private static String answer(LongSupplier call) {
        try {
            return Long.toString(call.getAsLong());
        } catch (RuntimeException e) {
            return "throws." + e.getClass().getSimpleName();
        }
    }

    private void both(String call, LongSupplier ofProgram, LongSupplier ofModel) {
        calls++;
        Check.same(name + ", call " + calls + ": " + call, answer(ofProgram), answer(ofModel));
    }

    private void void_(String call, Runnable ofProgram, Runnable ofModel) {
        both(call, () -> {
            ofProgram.run();
            return 0;
        }, () -> {
            ofModel.run();
            return 0;
        });
    }

    // ---- what runs are made of

    private void pass(int n) {
        both("pass(" + n + ")", () -> program.pass(n), () -> model.pass(n));
    }

    private void telling(int peer) {
        if (random.nextInt(3) > 0) {
            pass(random.nextInt(secondsMost) + random.nextInt(2));
        }
        both("request(" + peer + ")", () -> program.request(peer), () -> model.request(peer));
        if (random.nextInt(12) == 0) {
            return;
        }
        int stratum = random.nextInt(20) == 0 ? random.nextInt(18) : strata[peer];
        long offset = lies[peer] + about(noise);
        long out = random.nextInt(3) == 0 ? 8192 : (long) (random.nextDouble() * wayMost);
        long back = random.nextBoolean() ? out : (long) (random.nextDouble() * wayMost);
        long held = random.nextBoolean() ? 0 : random.nextInt(1 << 20);
        answerOf(peer, stratum, new int[] {random.nextInt(rootMost), random.nextInt(rootMost)}, offset, new long[] {out, held, back});
        if (random.nextInt(30) == 0) {
            putAnywhere();
        }
        hear(peer);
        if (random.nextInt(20) == 0) {
            hear(peer);
        }
    }

    private void answerOf(int peer, int stratum, int[] root, long offset, long[] way) {
        both("answer(" + peer + ", " + stratum + ", " + root[0] + ", " + root[1] + ", " + offset + ", " + way[0] + ", " + way[1]
                + ", " + way[2] + ")",
            () -> program.answer(peer, stratum, root[0], root[1], offset, way[0], way[1], way[2]),
            () -> model.answer(peer, stratum, root[0], root[1], offset, way[0], way[1], way[2]));
    }

    private void hear(int peer) {
        both("hear(" + peer + ")", () -> program.hear(peer), () -> model.hear(peer));
        updates += model.chosen(1) != 0 ? 1 : 0;
        thinned += model.chosen(1) != model.chosen(2) ? 1 : 0;
        liars += model.chosen(1) != 0 && model.chosen(0) != model.chosen(1) ? 1 : 0;
        for (int what = 0; what < 3; what++) {
            int w = what;
            Check.same(name + ", call " + calls + ": chosen(" + w + ")", program.chosen(w), model.chosen(w));
        }
        for (int what = 0; what < 11; what++) {
            int w = what;
            Check.same(name + ", call " + calls + ": about(" + w + ")", answer(() -> program.about(w)), answer(() -> model.about(w)));
        }
        Check.same(name + ", call " + calls + ": clock()", program.clock(), model.clock());
    }

    private void putAnywhere() {
        int i = random.nextInt(3) == 0 ? random.nextInt(8) - 1 : random.nextInt(66) - 1;
        int v = random.nextInt(260) - 2;
        void_("put(" + i + ", " + v + ")", () -> program.put(i, v), () -> model.put(i, v));
    }

    private int peerOrNot() {
        return random.nextInt(10) == 0 ? random.nextInt(12) - 2 : random.nextInt(8);
    }

    private void wildCall() {
        int peer = peerOrNot();
        switch (random.nextInt(14)) {
            case 0: {
                long w = random.nextLong();
                int n = random.nextInt(10);
                both("type(" + w + ", " + n + ")", () -> program.type(w, n), () -> model.type(w, n));
                break;
            }
            case 1:
                if (random.nextInt(3) == 0) {
                    void_("wipe()", program::wipe, model::wipe);
                }
                break;
            case 2:
                putAnywhere();
                break;
            case 3:
                pass(random.nextInt(10) == 0 ? random.nextInt(4200) - 50 : random.nextInt(70));
                break;
            case 4:
                if (random.nextInt(10) == 0) {
                    long stamp = random.nextInt(3) == 0 ? 0 : random.nextLong();
                    void_("set(" + stamp + ")", () -> program.set(stamp), () -> model.set(stamp));
                }
                break;
            case 5: {
                int d = random.nextInt(4200000) - 2100000;
                void_("drift(" + d + ")", () -> program.drift(d), () -> model.drift(d));
                break;
            }
            case 6:
                both("request(" + peer + ")", () -> program.request(peer), () -> model.request(peer));
                break;
            case 7:
                hear(Math.floorMod(peer, 8));
                break;
            case 8:
                both("serve()", () -> program.serve() ? 1 : 0, () -> model.serve() ? 1 : 0);
                break;
            case 9:
                void_("turn()", program::turn, model::turn);
                break;
            case 10: {
                long[] way = {random.nextInt(50) - 1, random.nextInt(50) - 1, 1L << random.nextInt(42)};
                int[] root = {random.nextInt(1 << 22) - 1000, random.nextInt(1 << 22) - 1000};
                answerOf(peer, random.nextInt(260) - 2, root, about(1L << 41), way);
                break;
            }
            case 11: {
                // A request to us, and its reply to be looked at.
                void_("turn()", program::turn, model::turn);
                int first = random.nextInt(256);
                void_("put(0, " + first + ")", () -> program.put(0, first), () -> model.put(0, first));
                both("serve()", () -> program.serve() ? 1 : 0, () -> model.serve() ? 1 : 0);
                lookAtOut();
                break;
            }
            default:
                look();
        }
    }

    private void lookAtOut() {
        both("size()", program::size, model::size);
        for (int i = -1; i <= 48; i++) {
            int at = i;
            Check.same(name + ", call " + calls + ": out(" + at + ")", answer(() -> program.out(at)), answer(() -> model.out(at)));
        }
    }

    private void look() {
        int peer = peerOrNot();
        int what = random.nextInt(13) - 1;
        int i = random.nextInt(10) - 1;
        switch (random.nextInt(5)) {
            case 0:
                both("peer(" + peer + ", " + what + ")", () -> program.peer(peer, what), () -> model.peer(peer, what));
                break;
            case 1:
                both("sample(" + peer + ", " + i + ", " + what % 4 + ")", () -> program.sample(peer, i, what % 4),
                    () -> model.sample(peer, i, what % 4));
                break;
            case 2:
                both("chosen(" + what % 4 + ")", () -> program.chosen(what % 4), () -> model.chosen(what % 4));
                break;
            case 3:
                both("about(" + what + ")", () -> program.about(what), () -> model.about(what));
                break;
            default:
                lookAtOut();
        }
    }
}
