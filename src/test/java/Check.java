import java.util.function.Supplier;
import java.util.function.ToLongFunction;

/** Compares answers with those that are due, and counts the wrong ones. */
final class Check {
    private static int wrong = 0;

    private Check() {
    }

    static void same(String what, long got, long due) {
        same(what, Long.toString(got), Long.toString(due));
    }

    static void same(String what, boolean got, boolean due) {
        same(what, Boolean.toString(got), Boolean.toString(due));
    }

    static void same(String what, float got, float due) {
        same(what, Float.toString(got), Float.toString(due));
    }

    static void same(String what, char got, char due) {
        same(what, Character.toString(got), Character.toString(due));
    }

    static void same(String what, String got, String due) {
        if (!got.equals(due)) {
            wrong++;
            System.out.println(what + " answered " + got + ", due is " + due);
        }
    }

    /** What a call answers, or "throws." and the name of the exception that it throws. */
    static String outcome(Islandgrid grid, ToLongFunction<Islandgrid> call) {
        try {
            return Long.toString(call.applyAsLong(grid));
        } catch (RuntimeException e) {
            return "throws." + e.getClass().getSimpleName();
        }
    }

    /**
     * Checks that a call throws, and that it changes nothing: behind it the grid looks and goes on like
     * another one of the same making on which the call was not made.
     */
    static void refused(String what, Class<?> due, Supplier<Islandgrid> scene, ToLongFunction<Islandgrid> call) {
        Islandgrid tried = scene.get();
        same(what, outcome(tried, call), "throws." + due.getSimpleName());
        String[] got = Picture.of(tried).split("\n");
        String[] kept = Picture.of(scene.get()).split("\n");
        same(what + ", lines of the picture behind it,", got.length, kept.length);
        for (int line = 0; line < Math.min(got.length, kept.length); line++) {
            if (!got[line].equals(kept[line])) {
                same(what + " changed something:", got[line], kept[line]);
                return;
            }
        }
    }

    /** Ends the test, with the exit code 1 if an answer was wrong. */
    static void finish(String test) {
        System.out.println(test + ": " + (wrong == 0 ? "all answers are as due" : wrong + " answers are wrong"));
        System.exit(wrong == 0 ? 0 : 1);
    }
}
