/** What all tests share: they count and print each answer that is not the one that is due. */
final class Check {
    interface Asked {
        long answer();
    }

    interface Done {
        void go();
    }

    private static int checks = 0;
    private static int wrong = 0;

    private Check() {
    }

    static void due(String call, long want, long got) {
        checks++;
        if (got != want) {
            tell(call + " answered " + got + ", due is " + want);
        }
    }

    static void holds(String what, boolean so) {
        checks++;
        if (!so) {
            tell(what);
        }
    }

    static void same(String what, String want, String got) {
        checks++;
        if (!want.equals(got)) {
            tell(what + "\n  due is " + want + "\n  is     " + got);
        }
    }

    /** The call throws: there is no such steel, melt, billet, section or die. */
    static void noSuch(String call, Done done) {
        refused(call, IndexOutOfBoundsException.class, done);
    }

    /** The call throws: another argument is out of its range. */
    static void outOfRange(String call, Done done) {
        refused(call, IllegalArgumentException.class, done);
    }

    /** The call throws: the state does not allow it. */
    static void notNow(String call, Done done) {
        refused(call, IllegalStateException.class, done);
    }

    private static void refused(String call, Class<?> due, Done done) {
        checks++;
        try {
            done.go();
            tell(call + " threw nothing, due is " + due.getSimpleName());
        } catch (RuntimeException e) {
            if (e.getClass() != due || !isOwn(e)) {
                tell(call + " threw " + e + ", due is " + due.getSimpleName() + " of the class itself");
            }
        }
    }

    /** Whether the class threw it itself, and neither the machine nor the library for it. */
    static boolean isOwn(RuntimeException e) {
        StackTraceElement[] trace = e.getStackTrace();
        return trace.length > 0 && trace[0].getClassName().startsWith("AnvilHouse");
    }

    /** Behind the calls all that can be seen of the object is as it was ahead of them. */
    static void unchanged(AnvilHouse x, String calls, Done done) {
        String before = Look.at(x);
        done.go();
        same("refused " + calls + " changed something", before, Look.at(x));
    }

    private static void tell(String what) {
        wrong++;
        System.out.println(what);
    }

    /** The last line of each test's main. */
    static void end() {
        System.out.println(checks + " checks, " + wrong + " wrong");
        if (wrong != 0) {
            System.exit(1);
        }
    }
}
