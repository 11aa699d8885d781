import java.util.NoSuchElementException;
import java.util.function.IntFunction;
import java.util.function.Supplier;
import java.util.function.ToLongFunction;

/** What the tests of edges have in common: values around a range, and numbers of things that are there or not. */
final class Edges {
    static final Class<?> NO_INDEX = IndexOutOfBoundsException.class;
    static final Class<?> BAD_ARGUMENT = IllegalArgumentException.class;
    static final Class<?> BAD_STATE = IllegalStateException.class;
    static final Class<?> NO_ELEMENT = NoSuchElementException.class;
    static final Class<?> NOT_FIT = UnsupportedOperationException.class;

    /** A call with the one argument that is tried. */
    interface Call {
        long on(Islandgrid grid, int value);
    }

    private Edges() {
    }

    /** From the least to the greatest value all are taken; the next ones on either side are refused. */
    static void range(String what, int least, int greatest, Supplier<Islandgrid> scene, Call call) {
        for (int value : new int[] {least, least + 1, greatest - 1, greatest}) {
            String outcome = Check.outcome(scene.get(), grid -> call.on(grid, value));
            Check.same(what + " " + value + ", refused", outcome.startsWith("throws."), false);
        }
        for (int value : new int[] {Integer.MIN_VALUE, least - 1, greatest + 1, Integer.MAX_VALUE}) {
            Check.refused(what + " " + value, BAD_ARGUMENT, scene, grid -> call.on(grid, value));
        }
    }

    /** Of none, one and the most things, those with the numbers 0 to n - 1 are there, and no other ones. */
    static void numbers(String what, int most, IntFunction<Islandgrid> scene, Call call) {
        for (int count : new int[] {0, 1, most}) {
            Supplier<Islandgrid> some = () -> scene.apply(count);
            for (int number = 0; number < count; number++) {
                int there = number;
                String outcome = Check.outcome(some.get(), grid -> call.on(grid, there));
                Check.same(what + " " + number + " of " + count + ", missed",
                        outcome.equals("throws." + NO_INDEX.getSimpleName()), false);
            }
            for (int number : new int[] {Integer.MIN_VALUE, -1, count, Integer.MAX_VALUE}) {
                Check.refused(what + " " + number + " of " + count, NO_INDEX, some,
                        grid -> call.on(grid, number));
            }
        }
    }

    /** Checks what a call throws, without a look at what it changes. */
    static void throwsOn(String what, Class<?> due, Islandgrid grid, ToLongFunction<Islandgrid> call) {
        Check.same(what, Check.outcome(grid, call), "throws." + due.getSimpleName());
    }
}
