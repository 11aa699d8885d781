import java.util.NoSuchElementException;
import java.util.function.Supplier;

/** The promises 30 to 36. */
public final class SupplyAndSharesTest {
    private static final Class<?> NO_INDEX = IndexOutOfBoundsException.class;
    private static final Class<?> BAD_ARGUMENT = IllegalArgumentException.class;
    private static final Class<?> NO_ELEMENT = NoSuchElementException.class;

    public static void main(String[] args) {
        promise30Bound();
        promise30BoundOfStores();
        promise31Demand();
        promise32IsKept();
        promise32IsKeptOfSeveralIslands();
        promise33Barrier();
        promise34Behind();
        promises35And36Share();
        promises35And36ShareOfOneIsland();
        promises35And36ShareOfTooLittleFuel();
        promises35And36ShareRefuses();
        Check.finish("SupplyAndSharesTest");
    }

    private static void promise30Bound() {
        Islandgrid grid = Scenes.row();
        Check.same("bound without supply", grid.bound(0), 0);
        grid.addGenerator(0, 10, 50, 0, 9999);
        grid.addGenerator(1, 10, 200, 0, 30);
        grid.addGenerator(1, 10, 100, 1, 9999);
        grid.addGenerator(2, 10, 60, 0, 9999);
        Check.same("bound of what is off", grid.bound(0), 0);
        for (int generator = 0; generator < 4; generator++) {
            grid.start(generator);
        }
        Check.same("bound by the greatest power", grid.bound(0), 50);
        Check.same("bound by the fuel", grid.bound(1), 30);
        Check.same("bound of another island", grid.bound(2), 60);
        grid.close(0);
        Check.same("bound of both", grid.bound(0), 80);
        Check.same("bound of both, from the other site", grid.bound(1), 80);
        grid.setReserve(15);
        Check.same("bound with a reserve", grid.bound(1), 65);
        Check.same("bound of another island with a reserve", grid.bound(2), 45);
        grid.setReserve(80);
        Check.same("bound with a reserve of all", grid.bound(1), 0);
        grid.setReserve(81);
        Check.same("bound with a reserve of more", grid.bound(1), 0);
        grid.tie();
        Check.same("bound of the tied island", grid.bound(1), -1);
        grid.setReserve(0);
        Check.same("bound beside the tied island", grid.bound(2), 60);
        Check.refused("bound of no site", NO_INDEX, Scenes::running, g -> g.bound(1));
        Check.refused("bound of a site below", NO_INDEX, Scenes::full, g -> g.bound(-1));
        Check.refused("bound of a site above", NO_INDEX, Scenes::full, g -> g.bound(6));
    }

    private static void promise30BoundOfStores() {
        Islandgrid grid = Scenes.sites(2);
        grid.addGenerator(0, 50, 50, 0, 60);
        grid.addStore(0, 30, 20);
        grid.addStore(0, 99, 25);
        grid.addStore(1, 99, 25);
        grid.start(0);
        Check.same("bound of empty stores", grid.bound(0), 50);
        grid.pass(1);
        Check.same("bound by the fuel and by the charge", grid.bound(0), 10 + 20 + 25);
        grid.refuel(0, 40);
        grid.pass(1);
        grid.stop(0);
        Check.same("charge of the first store", grid.charge(0), 30);
        Check.same("charge of the second store", grid.charge(1), 50);
        Check.same("bound by the rate", grid.bound(0), 45);
        grid.addLoad(0, 42, 1);
        grid.pass(1);
        Check.same("bound by charge and rate", grid.bound(0), 10 + 25);
        Check.same("bound of an empty store", grid.bound(1), 0);
    }

    private static void promise31Demand() {
        Islandgrid grid = Scenes.running();
        Check.same("demand at first", grid.demand(0), 40);
        grid.addSite();
        grid.addLoad(1, 33, 1);
        Check.same("demand of one island", grid.demand(0), 40);
        Check.same("demand of the other one", grid.demand(1), 33);
        grid.pass(2);
        Check.same("demand of a dark load", grid.demand(1), 0);
        grid.pass(1);
        Check.same("demand of those that are lit", grid.demand(0), 20);
        grid.addLoad(1, 7, 9);
        grid.close(grid.addLine(0, 1));
        Check.same("demand of both", grid.demand(1), 27);
        Check.same("demand without loads", Scenes.sites(1).demand(0), 0);
        Check.refused("demand of no site", NO_INDEX, Scenes::running, g -> g.demand(1));
        Check.refused("demand of a site below", NO_INDEX, Scenes::full, g -> g.demand(-1));
        Check.refused("demand of a site above", NO_INDEX, Scenes::full, g -> g.demand(6));
    }

    /** The loads 4, 1, 0, 2, 3 in this order, of 15, 10, 25, 30 and 1; the supply is 50. */
    private static Islandgrid ordered() {
        Islandgrid grid = Scenes.sites(2);
        grid.addGenerator(0, 0, 50, 0, 9999);
        grid.start(0);
        grid.addLoad(0, 25, 2);
        grid.addLoad(0, 10, 1);
        grid.addLoad(0, 30, 2);
        grid.addLoad(0, 1, 3);
        grid.addLoad(0, 15, 1);
        grid.setRank(1, 2);
        grid.setRank(0, 3);
        grid.setRank(2, 4);
        grid.setRank(3, 9);
        return grid;
    }

    private static void kept(String what, Islandgrid grid, boolean... due) {
        for (int load = 0; load < due.length; load++) {
            Check.same(what + ": isKept " + load, grid.isKept(load), due[load]);
        }
    }

    private static void promise32IsKept() {
        Islandgrid grid = ordered();
        kept("a sum as great as the bound", grid, true, true, false, false, true);
        grid.setReserve(1);
        kept("a sum greater than the bound", grid, false, true, false, false, true);
        grid.setReserve(26);
        kept("a smaller one behind a barrier", grid, false, false, false, false, true);
        grid.setReserve(36);
        kept("none", grid, false, false, false, false, false);
        grid.pass(1);
        Check.same("all are dark", grid.litShare(), 0.0f);
        grid.setReserve(0);
        kept("dark ones count", grid, true, true, false, false, true);
        grid.setRank(2, 1);
        kept("of the same rank by numbers", grid, false, false, true, false, true);
        grid.setRank(4, 2);
        kept("the lower number ahead", grid, false, true, true, false, false);
        grid.tie();
        kept("the tied island", grid, true, true, true, true, true);
        Check.refused("isKept of no load", NO_INDEX, Scenes::running, g -> g.isKept(2) ? 1 : 0);
        Check.refused("isKept of one below", NO_INDEX, Scenes::full, g -> g.isKept(-1) ? 1 : 0);
        Check.refused("isKept of one above", NO_INDEX, Scenes::full, g -> g.isKept(10) ? 1 : 0);
    }

    private static void promise32IsKeptOfSeveralIslands() {
        Islandgrid grid = ordered();
        grid.addLoad(1, 40, 1);
        grid.addGenerator(1, 0, 40, 0, 9999);
        kept("without supply", grid, true, true, false, false, true, false);
        grid.start(1);
        kept("with supply of its own", grid, true, true, false, false, true, true);
        grid.close(grid.addLine(0, 1));
        kept("all on one island", grid, true, true, false, false, true, true);
        Check.same("the barrier of that island", grid.barrier(3), 2);
        grid.stop(0);
        kept("with the other supply", grid, false, false, false, false, true, false);
        Check.same("the barrier of the higher number", grid.barrier(1), 5);
        grid.setReserve(26);
        Check.same("the barrier of the lower number", grid.barrier(5), 4);
    }

    private static void promise33Barrier() {
        Islandgrid grid = ordered();
        grid.addLoad(1, 3, 1);
        Check.same("barrier of the barrier", grid.barrier(2), 2);
        Check.same("barrier of a load behind it", grid.barrier(3), 2);
        Check.same("barrier of another island", grid.barrier(5), 5);
        grid.setReserve(30);
        Check.same("barrier that is higher", grid.barrier(3), 1);
        Check.same("barrier of the one between", grid.barrier(0), 1);
        grid.setReserve(50);
        Check.same("barrier of all", grid.barrier(1), 4);
        grid.setReserve(30);
        grid.setRank(0, 1);
        Check.same("barrier of the number 0", grid.barrier(3), 0);
        grid.setReserve(50);
        grid.setRank(2, 1);
        Check.same("barrier of the lowest number", grid.barrier(4), 0);
        grid.setRank(0, 2);
        Check.same("barrier of the next number", grid.barrier(4), 2);
        Supplier<Islandgrid> scene = SupplyAndSharesTest::ordered;
        Check.refused("barrier of a load that is kept", NO_ELEMENT, scene, g -> g.barrier(0));
        Check.refused("barrier on the tied island", NO_ELEMENT, () -> {
            Islandgrid tied = ordered();
            tied.tie();
            return tied;
        }, g -> g.barrier(3));
        Check.refused("barrier of no load", NO_INDEX, scene, g -> g.barrier(5));
        Check.refused("barrier of one below", NO_INDEX, Scenes::full, g -> g.barrier(-1));
        Check.refused("barrier of one above", NO_INDEX, Scenes::full, g -> g.barrier(10));
    }

    private static void promise34Behind() {
        Islandgrid grid = ordered();
        grid.addLoad(1, 3, 1);
        Check.same("behind of the barrier", grid.behind(2), 0);
        Check.same("behind of the next one", grid.behind(3), 1);
        Check.same("behind on another island", grid.behind(5), 0);
        grid.setReserve(30);
        Check.same("behind of a higher barrier", grid.behind(1), 0);
        Check.same("one behind it", grid.behind(0), 1);
        Check.same("two behind it", grid.behind(2), 2);
        Check.same("three behind it", grid.behind(3), 3);
        grid.setReserve(50);
        grid.setRank(3, 1);
        Check.same("four behind it", grid.behind(2), 4);
        Check.same("behind of the lower number", grid.behind(3), 0);
        Check.same("behind of the same rank", grid.behind(4), 1);
        Supplier<Islandgrid> scene = SupplyAndSharesTest::ordered;
        Check.refused("behind of a load that is kept", NO_ELEMENT, scene, g -> g.behind(0));
        Check.refused("behind on the tied island", NO_ELEMENT, () -> {
            Islandgrid tied = ordered();
            tied.tie();
            return tied;
        }, g -> g.behind(3));
        Check.refused("behind of no load", NO_INDEX, scene, g -> g.behind(5));
        Check.refused("behind of one below", NO_INDEX, Scenes::full, g -> g.behind(-1));
        Check.refused("behind of one above", NO_INDEX, Scenes::full, g -> g.behind(10));
    }

    /** Both ways to find a share. */
    private static void sameShare(Islandgrid grid, int site, int demand, int generator, int due) {
        String what = "(" + site + ", " + demand + ", " + generator + ")";
        Check.same("share" + what, grid.share(site, demand, generator), due);
        Check.same("shareBySteps" + what, grid.shareBySteps(site, demand, generator), due);
    }

    /** What each generator of the site 0 gives for the demands from 0 on. */
    private static void sameShares(Islandgrid grid, int generator, int... due) {
        for (int demand = 0; demand < due.length; demand++) {
            sameShare(grid, 0, demand, generator, due[demand]);
        }
    }

    private static Islandgrid two(int greatest, int fuel, int otherGreatest, int otherFuel) {
        Islandgrid grid = Scenes.sites(1);
        grid.addGenerator(0, 0, greatest, 0, fuel);
        grid.addGenerator(0, 0, otherGreatest, 0, otherFuel);
        grid.start(0);
        grid.start(1);
        return grid;
    }

    private static void promises35And36Share() {
        Islandgrid grid = two(2, 100, 4, 100);
        sameShares(grid, 0, 0, 1, 1, 1, 2, 2, 2, 2);
        sameShares(grid, 1, 0, 0, 1, 2, 2, 3, 4, 4);
        Check.same("share, the first call for one", two(2, 100, 4, 100).share(0, 3, 1), 2);
        Check.same("shareBySteps, the first call for one", two(2, 100, 4, 100).shareBySteps(0, 3, 1), 2);
        Islandgrid turned = two(4, 100, 2, 100);
        sameShares(turned, 0, 0, 1, 1, 2, 3, 3, 4, 4);
        sameShares(turned, 1, 0, 0, 1, 1, 1, 2, 2, 2);
        Islandgrid byFuel = two(200, 4, 100, 2);
        sameShares(byFuel, 0, 0, 1, 1, 2, 3, 3, 4, 4);
        sameShares(byFuel, 1, 0, 0, 1, 1, 1, 2, 2, 2);
        Islandgrid thirds = two(3, 100, 2, 100);
        sameShares(thirds, 0, 0, 1, 1, 2, 2, 3, 3);
        sameShares(thirds, 1, 0, 0, 1, 1, 2, 2, 2);
        Islandgrid oneStep = two(4, 100, 1, 100);
        sameShares(oneStep, 0, 0, 1, 1, 2, 3, 4, 4);
        sameShares(oneStep, 1, 0, 0, 1, 1, 1, 1, 1);
        Islandgrid great = two(200, 9999, 100, 9999);
        sameShare(great, 0, 150, 0, 100);
        sameShare(great, 0, 150, 1, 50);
        sameShare(great, 0, 151, 0, 101);
        sameShare(great, 0, 152, 1, 51);
        sameShare(great, 0, 299, 0, 199);
        sameShare(great, 0, 299, 1, 100);
        sameShare(great, 0, 1200, 0, 200);
        sameShare(great, 0, 1200, 1, 100);
    }

    private static void promises35And36ShareOfOneIsland() {
        Islandgrid grid = Scenes.row();
        grid.close(0);
        grid.addGenerator(0, 10, 50, 0, 100);
        grid.addGenerator(1, 20, 30, 0, 100);
        grid.addGenerator(2, 5, 90, 0, 100);
        grid.addGenerator(0, 7, 60, 0, 100);
        grid.addGenerator(1, 9, 60, 3, 100);
        grid.addGenerator(1, 8, 8, 0, 100);
        int[] started = {0, 1, 2, 4, 5};
        for (int generator : started) {
            grid.start(generator);
        }
        sameShare(grid, 0, 0, 0, 10);
        sameShare(grid, 1, 0, 5, 8);
        sameShare(grid, 1, 38, 1, 20);
        sameShare(grid, 1, 39, 0, 11);
        sameShare(grid, 1, 40, 1, 21);
        sameShare(grid, 0, 83, 0, 46);
        sameShare(grid, 0, 83, 1, 29);
        sameShare(grid, 0, 83, 5, 8);
        sameShare(grid, 0, 1200, 1, 30);
        sameShare(grid, 2, 4, 2, 5);
        sameShare(grid, 2, 60, 2, 60);
        sameShare(grid, 2, 91, 2, 90);
    }

    /** One that still runs, but has less fuel than its least power, gives that first and can't give more. */
    private static void promises35And36ShareOfTooLittleFuel() {
        Islandgrid grid = Scenes.sites(1);
        grid.addGenerator(0, 10, 50, 0, 50);
        grid.addGenerator(0, 0, 40, 0, 9999);
        grid.start(0);
        grid.addLoad(0, 45, 1);
        grid.pass(1);
        Check.same("it runs", grid.state(0), 'r');
        Check.same("it has too little fuel", grid.fuel(0), 5);
        grid.start(1);
        sameShare(grid, 0, 0, 0, 10);
        sameShare(grid, 0, 45, 0, 10);
        sameShare(grid, 0, 10, 1, 0);
        sameShare(grid, 0, 11, 1, 1);
        sameShare(grid, 0, 45, 1, 35);
        sameShare(grid, 0, 51, 1, 40);
    }

    /** The generator 0 runs, 1 is off, 2 warms up; 3 runs on another island. */
    private static Islandgrid four() {
        Islandgrid grid = Scenes.sites(2);
        grid.addGenerator(0, 10, 50, 0, 100);
        grid.addGenerator(0, 10, 50, 0, 100);
        grid.addGenerator(0, 10, 50, 2, 100);
        grid.addGenerator(1, 10, 50, 0, 100);
        grid.start(0);
        grid.start(2);
        grid.start(3);
        return grid;
    }

    private static void refusedShare(Class<?> due, int site, int demand, int generator) {
        String what = "(" + site + ", " + demand + ", " + generator + ")";
        Supplier<Islandgrid> scene = SupplyAndSharesTest::four;
        Check.refused("share" + what, due, scene, g -> g.share(site, demand, generator));
        Check.refused("shareBySteps" + what, due, scene, g -> g.shareBySteps(site, demand, generator));
    }

    private static void promises35And36ShareRefuses() {
        sameShare(four(), 0, 1200, 0, 50);
        sameShare(four(), 1, 0, 3, 10);
        refusedShare(NO_ELEMENT, 0, 50, 1);
        refusedShare(NO_ELEMENT, 0, 50, 2);
        refusedShare(NO_ELEMENT, 0, 50, 3);
        refusedShare(NO_ELEMENT, 1, 50, 0);
        refusedShare(BAD_ARGUMENT, 0, -1, 0);
        refusedShare(BAD_ARGUMENT, 0, 1201, 0);
        refusedShare(BAD_ARGUMENT, 0, Integer.MAX_VALUE, 0);
        refusedShare(BAD_ARGUMENT, 0, 1201, 1);
        refusedShare(NO_INDEX, 2, 50, 0);
        refusedShare(NO_INDEX, -1, 50, 0);
        refusedShare(NO_INDEX, 0, 50, 4);
        refusedShare(NO_INDEX, 0, 50, -1);
        refusedShare(NO_INDEX, 2, -1, 0);
        refusedShare(NO_INDEX, 0, 1201, 4);
    }
}
