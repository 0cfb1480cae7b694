/** Counts and prints the answers that are not as due. */
final class Check {
    private static int wrong = 0;
    private static int made = 0;
    private static int sentences = 0;
    private static String sentence = "";

    private Check() {
    }

    /** The checks that follow are of this sentence of the document, which is printed with what is wrong. */
    static void sentence(String text) {
        sentences++;
        sentence = "\"" + text + "\": ";
    }

    private static void wrong(String text) {
        wrong++;
        System.out.println(sentence + text);
    }

    static void same(String what, long got, long due) {
        made++;
        if (got != due) {
            wrong(what + " answered " + got + ", due is " + due);
        }
    }

    static void same(String what, String got, String due) {
        made++;
        if (!got.equals(due)) {
            wrong(what + " answered " + got + ", due is " + due);
        }
    }

    static void holds(String what, boolean is) {
        same(what, is ? 1 : 0, 1);
    }

    /** The call must throw exactly this class, not one below it. */
    static void refused(String what, Class<? extends RuntimeException> due, Runnable call) {
        made++;
        try {
            call.run();
        } catch (RuntimeException e) {
            if (e.getClass() != due) {
                wrong(what + " threw " + e.getClass() + ", due is " + due);
            }
            return;
        }
        wrong(what + " threw nothing, due is " + due);
    }

    static int wrongSoFar() {
        return wrong;
    }

    static void end(String name) {
        String of = sentences == 0 ? "" : " of " + sentences + " sentences";
        System.out.println(name + ": " + made + " checks" + of + ", " + wrong + " wrong");
        if (wrong != 0) {
            System.exit(1);
        }
    }
}
