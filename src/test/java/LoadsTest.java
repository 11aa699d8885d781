import java.util.NoSuchElementException;
import java.util.function.Supplier;

/** The promises 24 to 29. */
public final class LoadsTest {
    private static final Class<?> NO_INDEX = IndexOutOfBoundsException.class;
    private static final Class<?> BAD_ARGUMENT = IllegalArgumentException.class;
    private static final Class<?> BAD_STATE = IllegalStateException.class;
    private static final Class<?> NO_ELEMENT = NoSuchElementException.class;

    public static void main(String[] args) {
        promise24AddLoad();
        promise25SetRank();
        promise26IsLit();
        promise27Waits();
        promise27WaitsAgain();
        promise28SetReserve();
        promise29SetDelay();
        promise29SetDelayOfNothing();
        Check.finish("LoadsTest");
    }

    /** One site whose supply is 50, with three loads of 20, 20 and 30 and the ranks 3, 2 and 2. */
    private static Islandgrid threeLoads() {
        Islandgrid grid = Scenes.sites(1);
        grid.addGenerator(0, 0, 50, 0, 9999);
        grid.start(0);
        grid.addLoad(0, 20, 3);
        grid.addLoad(0, 20, 2);
        grid.addLoad(0, 30, 2);
        return grid;
    }

    private static void lit(String what, Islandgrid grid, boolean... due) {
        for (int load = 0; load < due.length; load++) {
            Check.same(what + ": isLit " + load, grid.isLit(load), due[load]);
        }
    }

    private static void promise24AddLoad() {
        Islandgrid grid = Scenes.sites(2);
        Check.same("addLoad, the least values", grid.addLoad(0, 1, 1), 0);
        Check.same("addLoad, the greatest values", grid.addLoad(1, 200, 9), 1);
        for (int load = 2; load < 10; load++) {
            Check.same("addLoad", grid.addLoad(1, 5, 5), load);
        }
        Check.same("a new load is lit", grid.isLit(9), true);
        Check.same("demand of one load", grid.demand(0), 1);
        Check.same("demand of the others", grid.demand(1), 240);
        Check.same("rank of the first one", grid.setRank(0, 4), 1);
        Check.same("rank of the second one", grid.setRank(1, 4), 9);
        Supplier<Islandgrid> scene = () -> Scenes.sites(2);
        Check.refused("power below", BAD_ARGUMENT, scene, g -> g.addLoad(0, 0, 5));
        Check.refused("power above", BAD_ARGUMENT, scene, g -> g.addLoad(0, 201, 5));
        Check.refused("rank below", BAD_ARGUMENT, scene, g -> g.addLoad(0, 5, 0));
        Check.refused("rank above", BAD_ARGUMENT, scene, g -> g.addLoad(0, 5, 10));
        Check.refused("no such site", NO_INDEX, scene, g -> g.addLoad(2, 5, 5));
        Check.refused("a site below", NO_INDEX, scene, g -> g.addLoad(-1, 5, 5));
        Check.refused("no such site, wrong power", NO_INDEX, scene, g -> g.addLoad(2, 0, 5));
        Check.refused("an eleventh load", BAD_STATE, Scenes::full, g -> g.addLoad(0, 5, 5));
        Check.refused("an eleventh load, wrong rank", BAD_ARGUMENT, Scenes::full, g -> g.addLoad(0, 5, 0));
        Check.refused("an eleventh load, no such site", NO_INDEX, Scenes::full, g -> g.addLoad(6, 5, 5));
    }

    private static void promise25SetRank() {
        Islandgrid grid = threeLoads();
        Check.same("setRank", grid.setRank(0, 9), 3);
        Check.same("setRank again", grid.setRank(0, 1), 9);
        Check.same("setRank to the same", grid.setRank(0, 1), 1);
        Check.same("rank of another one", grid.setRank(2, 2), 2);
        Check.same("pass with the new ranks", grid.pass(1), 2);
        lit("new ranks", grid, true, true, false);
        grid.setRank(1, 3);
        grid.pass(1);
        Check.same("kept by the rank, but still dark", grid.waits(2), 1);
        Check.refused("setRank below", BAD_ARGUMENT, Scenes::full, g -> g.setRank(0, 0));
        Check.refused("setRank above", BAD_ARGUMENT, Scenes::full, g -> g.setRank(0, 10));
        Check.refused("setRank of no load", NO_INDEX, Scenes::running, g -> g.setRank(2, 5));
        Check.refused("setRank of one below", NO_INDEX, Scenes::full, g -> g.setRank(-1, 5));
        Check.refused("setRank of one above, wrong rank", NO_INDEX, Scenes::full, g -> g.setRank(10, 0));
    }

    private static void promise26IsLit() {
        Islandgrid grid = threeLoads();
        lit("at first", grid, true, true, true);
        grid.pass(1);
        lit("of 50, by rank and number", grid, false, true, true);
        grid.stop(0);
        lit("ahead of the next tick", grid, false, true, true);
        grid.pass(1);
        lit("without supply", grid, false, false, false);
        grid.start(0);
        grid.pass(2);
        lit("they wait", grid, false, false, false);
        grid.pass(1);
        lit("they are given back", grid, false, true, true);
        Check.refused("isLit of no load", NO_INDEX, Scenes::running, g -> g.isLit(2) ? 1 : 0);
        Check.refused("isLit of one below", NO_INDEX, Scenes::full, g -> g.isLit(-1) ? 1 : 0);
        Check.refused("isLit of one above", NO_INDEX, Scenes::full, g -> g.isLit(10) ? 1 : 0);
    }

    private static void promise27Waits() {
        Islandgrid grid = Scenes.sites(1);
        grid.addLoad(0, 10, 1);
        Check.same("waits of a new load", Check.outcome(grid, g -> g.waits(0)), "throws.NoSuchElementException");
        grid.pass(1);
        Check.same("waits of a dark load", grid.waits(0), 2);
        grid.pass(5);
        Check.same("waits as long as it is not kept", grid.waits(0), 2);
        grid.addGenerator(0, 0, 10, 0, 9999);
        grid.start(0);
        Check.same("waits ahead of the tick", grid.waits(0), 2);
        grid.pass(1);
        Check.same("waits behind one tick", grid.waits(0), 1);
        grid.pass(1);
        Check.same("waits behind two ticks", grid.waits(0), 0);
        Check.same("dark behind two ticks", grid.isLit(0), false);
        grid.pass(1);
        Check.same("lit behind three ticks", grid.isLit(0), true);
        Check.refused("waits of a lit load", NO_ELEMENT, Scenes::running, g -> g.waits(1));
        Check.refused("waits of no load", NO_INDEX, Scenes::running, g -> g.waits(2));
        Check.refused("waits of one below", NO_INDEX, Scenes::full, g -> g.waits(-1));
        Check.refused("waits of one above", NO_INDEX, Scenes::full, g -> g.waits(10));
    }

    /** A wait that has begun starts again when the load is not kept meanwhile; the tied island keeps all. */
    private static void promise27WaitsAgain() {
        Islandgrid grid = threeLoads();
        grid.setDelay(3);
        grid.pass(1);
        Check.same("waits of the load that was shed", grid.waits(0), 3);
        grid.setReserve(0);
        grid.tie();
        grid.pass(2);
        Check.same("waits in the tied island", grid.waits(0), 1);
        grid.untie();
        grid.setDelay(5);
        Check.same("waits behind setDelay", grid.waits(0), 1);
        grid.pass(1);
        Check.same("waits when it is not kept again", grid.waits(0), 5);
        grid.tie();
        grid.pass(5);
        Check.same("waits at the end", grid.waits(0), 0);
        grid.pass(1);
        lit("the tied island", grid, true, true, true);
    }

    private static void promise28SetReserve() {
        Islandgrid grid = threeLoads();
        Check.same("setReserve", grid.setReserve(999), 0);
        Check.same("setReserve again", grid.setReserve(0), 999);
        Check.same("setReserve a third time", grid.setReserve(20), 0);
        Check.same("bound with a reserve", grid.bound(0), 30);
        Check.same("pass with a reserve", grid.pass(1), 1);
        lit("with a reserve", grid, false, true, false);
        grid.setReserve(60);
        Check.same("bound with a greater reserve", grid.bound(0), 0);
        Check.same("pass with a greater reserve", grid.pass(1), 0);
        Check.refused("setReserve below", BAD_ARGUMENT, Scenes::full, g -> g.setReserve(-1));
        Check.refused("setReserve above", BAD_ARGUMENT, Scenes::full, g -> g.setReserve(1000));
    }

    private static void promise29SetDelay() {
        Islandgrid grid = threeLoads();
        Check.same("setDelay", grid.setDelay(9), 2);
        Check.same("setDelay again", grid.setDelay(9), 9);
        grid.setReserve(50);
        grid.pass(1);
        Check.same("waits by the delay", grid.waits(1), 9);
        grid.setReserve(0);
        grid.pass(9);
        Check.same("dark for the delay", grid.isLit(1), false);
        grid.pass(1);
        Check.same("lit behind the delay", grid.isLit(1), true);
        Check.refused("setDelay below", BAD_ARGUMENT, Scenes::full, g -> g.setDelay(-1));
        Check.refused("setDelay above", BAD_ARGUMENT, Scenes::full, g -> g.setDelay(10));
    }

    private static void promise29SetDelayOfNothing() {
        Islandgrid grid = threeLoads();
        grid.setDelay(0);
        grid.setReserve(50);
        grid.pass(1);
        Check.same("waits without a delay", grid.waits(1), 0);
        lit("shed without a delay", grid, false, false, false);
        grid.setReserve(0);
        grid.pass(1);
        lit("given back without a delay", grid, false, true, true);
    }
}
