/** Counts the answers that are not due, and ends the test's program by them. */
final class Check {
    private static int checks;
    private static int wrong;

    private Check() {
    }

    static void same(String what, long got, long due) {
        checks++;
        if (got != due) {
            wrong++;
            System.out.println(what + " answered " + got + ", due is " + due);
        }
    }

    static void isTrue(String what, boolean holds) {
        checks++;
        if (!holds) {
            wrong++;
            System.out.println(what);
        }
    }

    /** The very class is asked for: the machine's own exceptions are often below those that are due. */
    static void refuses(String what, Class<? extends RuntimeException> due, GritWatch county, Runnable call) {
        long before = county.digest();
        Class<?> got = null;
        try {
            call.run();
        } catch (RuntimeException e) {
            got = e.getClass();
        }
        checks++;
        if (got != due) {
            wrong++;
            System.out.println(what + " threw " + got + ", due is " + due);
        }
        same(what + ", digest behind it", county.digest(), before);
    }

    static void noPlace(String what, GritWatch county, Runnable call) {
        refuses(what, IndexOutOfBoundsException.class, county, call);
    }

    static void badArgument(String what, GritWatch county, Runnable call) {
        refuses(what, IllegalArgumentException.class, county, call);
    }

    static void badState(String what, GritWatch county, Runnable call) {
        refuses(what, IllegalStateException.class, county, call);
    }

    static void finish() {
        System.out.println(checks + " checks, " + wrong + " wrong");
        if (wrong != 0 || checks == 0) {
            System.exit(1);
        }
    }
}
