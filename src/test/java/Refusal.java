import java.util.Arrays;

/**
 * A call that is refused throws the very exception that is due and leaves the county as it was: the digest is the same
 * before and behind it, and the county answers and goes on like one that was made alike and never heard the call.
 */
final class Refusal {
    interface Scene {
        GritWatch make();
    }

    interface Call {
        void on(GritWatch county);
    }

    private Refusal() {
    }

    static void noPlace(String what, Scene scene, Call call) {
        of(what, IndexOutOfBoundsException.class, scene, call);
    }

    static void badArgument(String what, Scene scene, Call call) {
        of(what, IllegalArgumentException.class, scene, call);
    }

    static void badState(String what, Scene scene, Call call) {
        of(what, IllegalStateException.class, scene, call);
    }

    static void of(String what, Class<? extends RuntimeException> due, Scene scene, Call call) {
        GritWatch county = scene.make();
        GritWatch untouched = scene.make();
        long before = county.digest();
        Class<?> got = thrownBy(county, call);
        Check.isTrue(what + " threw " + got + ", due is " + due, got == due);
        Check.same(what + ", digest behind it", county.digest(), before);
        Check.isTrue(what + " changed what one asks",
            Arrays.equals(Asked.everything(county), Asked.everything(untouched)));
        Check.isTrue(what + " changed the rest of the night",
            Arrays.equals(Asked.restOfTheNight(county), Asked.restOfTheNight(untouched)));
    }

    /** The call is taken, on a county of its own. */
    static void none(String what, Scene scene, Call call) {
        Class<?> got = thrownBy(scene.make(), call);
        Check.isTrue(what + " threw " + got + ", but it is within the bounds", got == null);
    }

    private static Class<?> thrownBy(GritWatch county, Call call) {
        try {
            call.on(county);
            return null;
        } catch (RuntimeException e) {
            return e.getClass();
        }
    }
}
