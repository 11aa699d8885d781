import java.util.NoSuchElementException;

/** The promises 37 to 46. */
public final class TicksAndSumsTest {
    private static final Class<?> NO_INDEX = IndexOutOfBoundsException.class;
    private static final Class<?> BAD_ARGUMENT = IllegalArgumentException.class;
    private static final Class<?> NO_ELEMENT = NoSuchElementException.class;

    public static void main(String[] args) {
        promise37Pass();
        promise37PassSheds();
        promise38Now();
        promise39Given();
        promise40FlowOfCharging();
        promise40FlowOfGiving();
        promise41GridGives();
        promise41GridTakes();
        promise41GridOfOneIsland();
        promises42To44Sums();
        promise45IsBalanced();
        promise46LitShare();
        Check.finish("TicksAndSumsTest");
    }

    private static void promise37Pass() {
        Islandgrid grid = Scenes.running();
        Check.same("pass(1)", grid.pass(1), 2);
        Check.same("now behind pass(1)", grid.now(), 1);
        Check.same("pass(2)", grid.pass(2), 1);
        Check.same("now behind pass(2)", grid.now(), 3);
        Check.same("pass(12)", grid.pass(12), 0);
        Check.same("now behind pass(12)", grid.now(), 15);
        Check.refused("pass(0)", BAD_ARGUMENT, Scenes::full, g -> g.pass(0));
        Check.refused("pass(-1)", BAD_ARGUMENT, Scenes::full, g -> g.pass(-1));
        Check.refused("pass(13)", BAD_ARGUMENT, Scenes::full, g -> g.pass(13));
        Check.refused("pass of the greatest int", BAD_ARGUMENT, Scenes::full, g -> g.pass(Integer.MAX_VALUE));
    }

    /** A generator that warms up is there for the balance of the tick in which it runs. */
    private static void promise37PassSheds() {
        Islandgrid grid = Scenes.sites(2);
        grid.addGenerator(0, 0, 30, 0, 9999);
        grid.addGenerator(0, 0, 30, 2, 9999);
        grid.addLoad(0, 10, 2);
        grid.addLoad(0, 15, 1);
        grid.addLoad(0, 20, 3);
        grid.addLoad(1, 1, 1);
        grid.start(0);
        grid.start(1);
        Check.same("of 45, the first two within 30", grid.pass(1), 2);
        Check.same("waits of the third", grid.waits(2), 2);
        Check.same("waits on the island without supply", grid.waits(3), 2);
        Check.same("both generators", grid.pass(1), 2);
        Check.same("waits of the third behind a tick", grid.waits(2), 1);
        Check.same("it waits", grid.pass(1), 2);
        Check.same("all of one island", grid.pass(1), 3);
        Check.same("the third is lit", grid.isLit(2), true);
        Check.same("the fourth is not", grid.isLit(3), false);
    }

    private static void promise38Now() {
        Islandgrid grid = new Islandgrid();
        Check.same("now at first", grid.now(), 0);
        grid.pass(1);
        Check.same("now behind a tick", grid.now(), 1);
        for (int time = 0; time < 100; time++) {
            grid.pass(12);
        }
        Check.same("now behind 1201 ticks", grid.now(), 1201);
        grid.addSite();
        grid.setDelay(3);
        Check.same("now behind other calls", grid.now(), 1201);
    }

    private static void promise39Given() {
        Islandgrid grid = Scenes.sites(1);
        grid.addGenerator(0, 10, 50, 0, 100);
        grid.addGenerator(0, 20, 30, 0, 100);
        grid.addGenerator(0, 5, 30, 1, 3);
        grid.addLoad(0, 75, 1);
        grid.start(0);
        grid.start(1);
        Check.same("given ahead of the first tick", grid.given(0), 0);
        grid.pass(1);
        Check.same("given by droop", grid.given(0), 46);
        Check.same("given by droop, the other one", grid.given(1), 29);
        Check.same("given of what is off", grid.given(2), 0);
        grid.stop(1);
        Check.same("given behind stop", grid.given(1), 29);
        grid.pass(1);
        Check.same("the load is shed, the least power", grid.given(0), 10);
        Check.same("given of what was stopped", grid.given(1), 0);
        grid.stop(0);
        grid.start(0);
        Check.same("given behind stop and start", grid.given(0), 10);
        Check.refused("given of no generator", NO_INDEX, Scenes::running, g -> g.given(1));
        Check.refused("given of one below", NO_INDEX, Scenes::full, g -> g.given(-1));
        Check.refused("given of one above", NO_INDEX, Scenes::full, g -> g.given(6));
    }

    /** One site; a generator that gives 30, and two stores with the rates 20 and 25. */
    private static Islandgrid charging() {
        Islandgrid grid = Scenes.sites(1);
        grid.addGenerator(0, 30, 30, 0, 9999);
        grid.addStore(0, 50, 20);
        grid.addStore(0, 40, 25);
        grid.start(0);
        return grid;
    }

    private static void sameStores(String what, Islandgrid grid, int... due) {
        for (int store = 0; store < due.length / 2; store++) {
            Check.same(what + ": flow " + store, grid.flow(store), due[2 * store]);
            Check.same(what + ": charge " + store, grid.charge(store), due[2 * store + 1]);
        }
    }

    private static void promise40FlowOfCharging() {
        Islandgrid grid = charging();
        sameStores("ahead of the first tick", grid, 0, 0, 0, 0);
        grid.pass(1);
        sameStores("by the rate", grid, -20, 20, -10, 10);
        grid.pass(1);
        sameStores("again", grid, -20, 40, -10, 20);
        grid.pass(1);
        sameStores("up to the capacity", grid, -10, 50, -20, 40);
        Check.same("nothing is lost as yet", grid.lost(), 0);
        grid.pass(1);
        sameStores("full", grid, 0, 50, 0, 40);
        Check.same("all is lost", grid.lost(), 30);
        Check.refused("flow of no store", NO_INDEX, Scenes::running, g -> g.flow(0));
        Check.refused("flow of one below", NO_INDEX, Scenes::full, g -> g.flow(-1));
        Check.refused("flow of one above", NO_INDEX, Scenes::full, g -> g.flow(4));
    }

    private static void promise40FlowOfGiving() {
        Islandgrid grid = charging();
        grid.pass(3);
        grid.stop(0);
        grid.addLoad(0, 30, 1);
        grid.addSite();
        grid.addStore(1, 9, 9);
        sameStores("behind stop", grid, -10, 50, -20, 40, 0, 0);
        grid.pass(1);
        sameStores("by the rate", grid, 20, 30, 10, 30, 0, 0);
        grid.pass(1);
        sameStores("again", grid, 20, 10, 10, 20, 0, 0);
        Check.same("a bound by the charge", grid.bound(0), 30);
        grid.pass(1);
        sameStores("by the charge", grid, 10, 0, 20, 0, 0, 0);
        Check.same("the load is still lit", grid.isLit(0), true);
        grid.pass(1);
        sameStores("empty", grid, 0, 0, 0, 0, 0, 0);
        Check.same("the load is dark", grid.isLit(0), false);
        grid.start(0);
        grid.pass(2);
        sameStores("charged while the load waits", grid, -20, 40, -10, 20, 0, 0);
        grid.pass(1);
        sameStores("the generator gives all for the load", grid, 0, 40, 0, 20, 0, 0);
    }

    private static void promise41GridGives() {
        Islandgrid grid = charging();
        grid.pass(3);
        grid.addLoad(0, 200, 1);
        grid.tie();
        Check.same("grid ahead of the first tick with it", grid.grid(), 0);
        grid.pass(1);
        Check.same("grid gives what is left", grid.grid(), 200 - 30 - 20 - 25);
        sameStores("stores ahead of the grid", grid, 20, 30, 25, 15);
        grid.pass(1);
        Check.same("grid gives more", grid.grid(), 200 - 30 - 20 - 15);
        Check.same("grid is of the latest tick", grid.grid(), 135);
        grid.untie();
        Check.same("grid behind untie", grid.grid(), 135);
        grid.pass(1);
        Check.same("grid without a tie", grid.grid(), 0);
        Check.same("the load is dark without it", grid.isLit(0), false);
    }

    private static void promise41GridTakes() {
        Islandgrid grid = charging();
        grid.addLoad(0, 3, 1);
        grid.tie();
        grid.pass(2);
        Check.same("grid, all goes to the stores", grid.grid(), 0);
        grid.pass(1);
        sameStores("stores ahead of the grid", grid, -10, 50, -17, 31);
        grid.pass(1);
        Check.same("grid takes what is left", grid.grid(), -18);
        grid.pass(1);
        Check.same("grid takes all that is spare", grid.grid(), -27);
        Check.same("nothing is lost on a tied island", grid.lost(), 0);
        grid.untie();
        grid.pass(1);
        Check.same("grid takes nothing behind untie", grid.grid(), 0);
        Check.same("it is lost then", grid.lost(), 27);
    }

    private static void promise41GridOfOneIsland() {
        Islandgrid grid = Scenes.sites(2);
        grid.addLine(1, 0);
        grid.addLoad(1, 60, 1);
        grid.addGenerator(1, 5, 10, 0, 9999);
        grid.setDelay(0);
        grid.tie();
        grid.start(0);
        grid.pass(1);
        Check.same("grid of another island", grid.grid(), 0);
        Check.same("lost on another island", grid.lost(), 5);
        grid.close(0);
        grid.pass(1);
        Check.same("grid for both sites", grid.grid(), 50);
        Check.same("the generator gives ahead of the grid", grid.given(0), 10);
        Check.same("lost behind that", grid.lost(), 5);
    }

    private static void sameSums(String what, Islandgrid grid, long burnt, long served, long lost) {
        Check.same(what + ": burnt", grid.burnt(), burnt);
        Check.same(what + ": served", grid.served(), served);
        Check.same(what + ": lost", grid.lost(), lost);
        Check.same(what + ": isBalanced", grid.isBalanced(), true);
    }

    private static void promises42To44Sums() {
        Islandgrid grid = Scenes.running();
        sameSums("at first", grid, 0, 0, 0);
        grid.pass(1);
        sameSums("behind one tick", grid, 40, 40, 0);
        grid.pass(2);
        sameSums("behind three ticks", grid, 100, 100, 0);
        grid.pass(1);
        sameSums("without fuel", grid, 100, 100, 0);
        grid.refuel(0, 9999);
        grid.start(0);
        sameSums("fuel that is not burnt", grid, 100, 100, 0);
        grid.pass(2);
        sameSums("the loads wait", grid, 120, 100, 20);
        grid.addSite();
        grid.addGenerator(1, 7, 7, 0, 9999);
        grid.addLoad(1, 2, 1);
        grid.start(1);
        grid.pass(1);
        sameSums("both islands", grid, 120 + 40 + 7, 100 + 40 + 2, 20 + 5);
        grid.tie();
        grid.pass(1);
        sameSums("one of them tied", grid, 167 + 40 + 7, 142 + 40 + 2, 25 + 5);
    }

    private static void promise45IsBalanced() {
        Islandgrid grid = charging();
        Check.same("isBalanced at first", grid.isBalanced(), true);
        grid.pass(1);
        Check.same("isBalanced, stores are charged", grid.isBalanced(), true);
        grid.pass(4);
        Check.same("isBalanced, something is lost", grid.isBalanced(), true);
        grid.tie();
        grid.pass(1);
        Check.same("isBalanced, the grid takes", grid.isBalanced(), true);
        grid.addLoad(0, 200, 1);
        grid.pass(1);
        Check.same("isBalanced, stores and the grid give", grid.isBalanced(), true);
        grid.stop(0);
        grid.pass(3);
        Check.same("isBalanced, the grid gives all", grid.isBalanced(), true);
        grid.untie();
        grid.refuel(0, 9999);
        Check.same("isBalanced, behind refuel", grid.isBalanced(), true);
        Islandgrid full = Scenes.full();
        for (int tick = 0; tick < 20; tick++) {
            Check.same("isBalanced in tick " + tick, full.isBalanced(), true);
            full.pass(1);
        }
    }

    private static void promise46LitShare() {
        Islandgrid grid = Scenes.sites(2);
        grid.addLoad(0, 5, 1);
        Check.same("litShare of one", grid.litShare(), 1.0f);
        grid.addLoad(1, 5, 1);
        grid.addLoad(1, 5, 2);
        Check.same("litShare of three", grid.litShare(), 1.0f);
        grid.tie();
        grid.pass(1);
        Check.same("litShare of one of three", grid.litShare(), (float) 1 / (float) 3);
        grid.addLoad(0, 5, 1);
        Check.same("litShare of two of four", grid.litShare(), 0.5f);
        grid.addLoad(0, 5, 1);
        grid.addLoad(0, 5, 1);
        grid.addLoad(0, 5, 1);
        Check.same("litShare of five of seven", grid.litShare(), (float) 5 / (float) 7);
        grid.untie();
        grid.pass(1);
        Check.same("litShare of none", grid.litShare(), 0.0f);
        Check.refused("litShare without a load", NO_ELEMENT, () -> Scenes.sites(3),
                g -> Float.floatToIntBits(g.litShare()));
        Check.refused("litShare of a new grid", NO_ELEMENT, Islandgrid::new,
                g -> Float.floatToIntBits(g.litShare()));
    }
}
