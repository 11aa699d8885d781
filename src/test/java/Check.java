import java.lang.reflect.InvocationTargetException;
import java.lang.reflect.Method;
import java.lang.reflect.Modifier;
import java.util.Arrays;
import java.util.Comparator;
import java.util.function.Supplier;
import java.util.function.ToLongFunction;

/** Compares answers with those that are due, and counts the wrong ones. */
final class Check {
    private static int wrong = 0;
    /** The test that runs, told ahead of each wrong answer. */
    private static String test = "";

    private Check() {
    }

    static void same(String what, long got, long due) {
        same(what, Long.toString(got), Long.toString(due));
    }

    static void same(String what, boolean got, boolean due) {
        same(what, Boolean.toString(got), Boolean.toString(due));
    }

    static void same(String what, float got, float due) {
        same(what, Float.toString(got), Float.toString(due));
    }

    static void same(String what, char got, char due) {
        same(what, Character.toString(got), Character.toString(due));
    }

    static void same(String what, String got, String due) {
        if (!got.equals(due)) {
            wrong++;
            System.out.println(test + what + " answered " + got + ", due is " + due);
        }
    }

    /** What a call answers, or "throws." and the name of the exception that it throws. */
    static String outcome(Islandgrid grid, ToLongFunction<Islandgrid> call) {
        try {
            return Long.toString(call.applyAsLong(grid));
        } catch (RuntimeException e) {
            return "throws." + e.getClass().getSimpleName();
        }
    }

    /**
     * Checks that a call throws, and that it changes nothing: behind it the grid looks and goes on like
     * another one of the same making on which the call was not made.
     */
    static void refused(String what, Class<?> due, Supplier<Islandgrid> scene, ToLongFunction<Islandgrid> call) {
        Islandgrid tried = scene.get();
        same(what, outcome(tried, call), "throws." + due.getSimpleName());
        samePicture(what, tried, scene.get());
    }

    /** Checks that calls have changed nothing on a grid. Both grids are used up by it. */
    static void samePicture(String what, Islandgrid tried, Islandgrid untouched) {
        String[] got = Picture.of(tried).split("\n");
        String[] kept = Picture.of(untouched).split("\n");
        same(what + ", lines of the picture behind it,", got.length, kept.length);
        for (int line = 0; line < Math.min(got.length, kept.length); line++) {
            if (!got[line].equals(kept[line])) {
                same(what + " changed something:", got[line], kept[line]);
                return;
            }
        }
    }

    /** Runs all tests of a class, which are its static methods without parameters, and ends. */
    static void runAll(Class<?> tests) {
        Method[] methods = tests.getDeclaredMethods();
        Arrays.sort(methods, Comparator.comparing(Method::getName));
        int run = 0;
        for (Method method : methods) {
            if (isTest(method)) {
                test = method.getName() + ": ";
                runOne(method);
                run++;
            }
        }
        test = "";
        same("tests of " + tests.getName() + ", at least one,", run > 0, true);
        finish(tests.getName());
    }

    private static boolean isTest(Method method) {
        return Modifier.isStatic(method.getModifiers()) && !method.isSynthetic()
                && method.getParameterCount() == 0 && method.getReturnType() == void.class;
    }

    private static void runOne(Method method) {
        try {
            method.invoke(null);
        } catch (InvocationTargetException e) {
            same("an answer where nothing is thrown", "throws." + e.getCause(), "nothing thrown");
        } catch (IllegalAccessException e) {
            same("the test", "private", "not private");
        }
    }

    /** Ends the test, with the exit code 1 if an answer was wrong. */
    static void finish(String test) {
        System.out.println(test + ": " + (wrong == 0 ? "all answers are as due" : wrong + " answers are wrong"));
        System.exit(wrong == 0 ? 0 : 1);
    }
}
