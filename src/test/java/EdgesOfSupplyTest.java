/** The edges that "Supply" and the promises 30 to 36 name: one test for each sentence. */
public final class EdgesOfSupplyTest {
    public static void main(String[] args) {
        Check.runAll(EdgesOfSupplyTest.class);
    }

    /** One site whose generators, with the least power 0, run; each takes two numbers, greatest power and fuel. */
    private static Islandgrid running(int... generators) {
        Islandgrid grid = Scenes.sites(1);
        for (int i = 0; i < generators.length; i += 2) {
            grid.start(grid.addGenerator(0, 0, generators[i], 0, generators[i + 1]));
        }
        return grid;
    }

    /** One site with ten loads of 20 and the rank 5, and a supply. */
    private static Islandgrid tenLoads(int supply) {
        Islandgrid grid = Scenes.supply(supply);
        for (int load = 0; load < 10; load++) {
            grid.addLoad(0, 20, 5);
        }
        return grid;
    }

    private static Islandgrid tiedLoads() {
        Islandgrid grid = Scenes.loads(10);
        grid.tie();
        return grid;
    }

    // Supply

    /** "What a running generator can give in a tick is its greatest power, or its fuel if that is less" */
    static void supplyOfAGeneratorIsItsPowerOrItsFuel() {
        Check.same("fuel 1 less", running(50, 49).bound(0), 49);
        Check.same("fuel as much", running(50, 50).bound(0), 50);
        Check.same("fuel 1 more", running(50, 51).bound(0), 50);
        Check.same("no fuel", running(50, 0).bound(0), 0);
        Check.same("fuel 1", running(50, 1).bound(0), 1);
    }

    /** The same sentence in a tick: a load of all fuel is served, 1 more is not */
    static void supplyOfAGeneratorBoundsATick() {
        Islandgrid grid = running(50, 49);
        grid.addLoad(0, 49, 1);
        Check.same("a load of all fuel", grid.pass(1), 1);
        Check.same("its fuel then", grid.fuel(0), 0);
        Islandgrid above = running(50, 49);
        above.addLoad(0, 50, 1);
        Check.same("1 more than the fuel", above.pass(1), 0);
        Check.same("its fuel then, nothing given", above.fuel(0), 49);
    }

    /** "what a store can give is its rate, or its charge if that is less" */
    static void supplyOfAStoreIsItsRateOrItsCharge() {
        Check.same("charge 1 less", Scenes.charged(50, 20, 19, 1).bound(0), 19);
        Check.same("charge as much", Scenes.charged(50, 20, 20, 1).bound(0), 20);
        Check.same("charge 1 more", Scenes.charged(50, 20, 7, 3).bound(0), 20);
        Check.same("empty", Scenes.charged(50, 20, 0, 1).bound(0), 0);
        Check.same("full, the capacity 1 less than the rate", Scenes.charged(19, 20, 50, 3).bound(0), 19);
        Check.same("full, the capacity as great as the rate", Scenes.charged(20, 20, 50, 3).bound(0), 20);
        Check.same("full, the capacity 1 more than the rate", Scenes.charged(21, 20, 50, 3).bound(0), 20);
    }

    /** "minus the reserve ... but at least 0" */
    static void supplyBoundIsAtLeast0() {
        Islandgrid grid = running(50, 9999);
        int[] due = {0, 50, 1, 49, 49, 1, 50, 0, 51, 0, 999, 0};
        for (int i = 0; i < due.length; i += 2) {
            grid.setReserve(due[i]);
            Check.same("bound with the reserve " + due[i], grid.bound(0), due[i + 1]);
        }
        Islandgrid none = Scenes.sites(1);
        none.setReserve(1);
        Check.same("bound without supply, the reserve 1", none.bound(0), 0);
    }

    /** "minus the reserve": the whole one for each island, however many sites and sources it has */
    static void supplyReserveIsHeldInEachIsland() {
        Islandgrid grid = Scenes.lines(1);
        grid.start(grid.addGenerator(0, 0, 30, 0, 100));
        grid.start(grid.addGenerator(1, 0, 40, 0, 100));
        grid.setReserve(10);
        Check.same("one island", grid.bound(0), 20);
        Check.same("the other one", grid.bound(1), 30);
        grid.close(0);
        Check.same("both as one", grid.bound(0), 60);
    }

    /** "a tied island has no bound" - whatever it has, and whatever is held back */
    static void supplyTheTiedIslandHasNoBound() {
        Islandgrid grid = running(50, 100);
        grid.tie();
        Check.same("with supply", grid.bound(0), -1);
        grid.setReserve(999);
        Check.same("with a reserve", grid.bound(0), -1);
        grid.untie();
        Check.same("untied", grid.bound(0), 0);
        Islandgrid none = Scenes.sites(2);
        none.tie();
        Check.same("without supply", none.bound(0), -1);
        Check.same("of the island beside it", none.bound(1), 0);
    }

    /** "the sum of what its running generators and its stores can give" - those of the island, and no other ones */
    static void supplyIsOfTheIslandAlone() {
        Islandgrid grid = Scenes.lines(1);
        grid.start(grid.addGenerator(0, 20, 30, 0, 100));
        grid.addGenerator(0, 0, 50, 0, 100);
        grid.start(grid.addGenerator(0, 0, 60, 9, 100));
        grid.start(grid.addGenerator(1, 10, 40, 0, 100));
        grid.addStore(0, 50, 20);
        grid.addStore(1, 50, 7);
        grid.pass(1);
        Check.same("one island", grid.bound(0), 30 + 20);
        Check.same("the other one", grid.bound(1), 40 + 7);
        grid.close(0);
        Check.same("both as one", grid.bound(1), 97);
    }

    // Promises 30 and 31

    /** "Returns the bound" - the least and the greatest: 6 generators of 200, 4 stores of 99 */
    static void promise30ReturnsTheLeastAndTheGreatestBound() {
        Check.same("the least", Scenes.sites(1).bound(0), 0);
        Islandgrid grid = Scenes.sites(1);
        for (int generator = 0; generator < 6; generator++) {
            grid.start(grid.addGenerator(0, 100, 200, 0, 9999));
        }
        for (int store = 0; store < 4; store++) {
            grid.addStore(0, 999, 99);
        }
        Check.same("with empty stores", grid.bound(0), 1200);
        grid.pass(1);
        Check.same("the greatest", grid.bound(0), 1596);
        grid.setReserve(999);
        Check.same("the greatest with the greatest reserve", grid.bound(0), 597);
    }

    /** "-1 without one" - at all sites of the tied island, at no other ones */
    static void promise30ReturnsMinus1WithoutABound() {
        Islandgrid grid = Scenes.closedRow();
        grid.open(4);
        grid.tie();
        for (int site = 0; site < 6; site++) {
            Check.same("bound of the site " + site, grid.bound(site), site < 5 ? -1 : 0);
        }
    }

    /** "by what its generators and stores can give now" - a generator short of fuel, which goes off, can still */
    static void promise30IsOfNow() {
        Check.same("it runs with the fuel 5", Scenes.shortOfFuel().bound(1), 5);
        Islandgrid grid = Scenes.shortOfFuel();
        grid.pass(1);
        Check.same("it is off", grid.bound(1), 0);
    }

    /** "if there is no such site" */
    static void promise30ThrowsWithoutSuchASite() {
        Edges.numbers("bound", 6, Scenes::sites, (g, site) -> g.bound(site));
    }

    /** "Returns the demand." - 0 without loads, with dark ones alone, and on another island; the greatest one */
    static void promise31ReturnsTheDemand() {
        Check.same("without loads", Scenes.sites(1).demand(0), 0);
        Islandgrid dark = Scenes.loads(10);
        dark.pass(1);
        Check.same("with dark loads alone", dark.demand(0), 0);
        Islandgrid grid = Scenes.sites(2);
        for (int load = 0; load < 10; load++) {
            grid.addLoad(1, 200, 1);
        }
        Check.same("the greatest", grid.demand(1), 2000);
        Check.same("of another island", grid.demand(0), 0);
    }

    /** "if there is no such site" */
    static void promise31ThrowsWithoutSuchASite() {
        Edges.numbers("demand", 6, Scenes::sites, (g, site) -> g.demand(site));
    }

    // Promises 32 to 34

    /** "Returns true if it would." - of ten loads, those up to the bound */
    static void promise32TellsThoseUpToTheBound() {
        for (int kept = 0; kept <= 10; kept++) {
            Islandgrid grid = tenLoads(200);
            grid.setReserve(200 - 20 * kept);
            for (int load = 0; load < 10; load++) {
                Check.same("the bound " + 20 * kept + ", load " + load, grid.isKept(load), load < kept);
            }
            grid.setReserve(200 - 20 * kept + 1);
            for (int load = 0; load < 10; load++) {
                Check.same("the bound " + 20 * kept + " - 1, load " + load, grid.isKept(load), load < kept - 1);
            }
        }
    }

    /** "by the bound as it is now" - a lit load need not be kept, a dark one can be */
    static void promise32IsOfNow() {
        Islandgrid grid = tenLoads(200);
        Check.same("kept", grid.isKept(9), true);
        grid.setReserve(1);
        Check.same("not kept, but lit", grid.isKept(9) || !grid.isLit(9), false);
        grid.pass(1);
        grid.setReserve(0);
        Check.same("kept, but dark", grid.isKept(9) && !grid.isLit(9), true);
    }

    /** A tied island that has no bound keeps all. */
    static void promise32TellsAllOfTheTiedIsland() {
        Islandgrid grid = tiedLoads();
        for (int load = 0; load < 10; load++) {
            Check.same("load " + load, grid.isKept(load), true);
        }
    }

    /** "if there is no such load" */
    static void promise32ThrowsWithoutSuchALoad() {
        Edges.numbers("isKept", 10, Scenes::loads, (g, load) -> g.isKept(load) ? 1 : 0);
    }

    /** "which can be the load itself" */
    static void promise33ReturnsTheLoadItself() {
        for (int load = 0; load < 10; load++) {
            Islandgrid grid = tenLoads(200);
            grid.setReserve(200 - 20 * load);
            Check.same("barrier of the load " + load, grid.barrier(load), load);
        }
    }

    /** "the first load of the island of a load, in their order" - the first and the last of ten */
    static void promise33ReturnsTheFirstInTheirOrder() {
        Islandgrid grid = Scenes.loads(10);
        Check.same("of the last one, by numbers", grid.barrier(9), 0);
        grid.setRank(9, 2);
        Check.same("of the first one, by rank", grid.barrier(0), 9);
        Check.same("of the first one in the order", grid.barrier(9), 9);
        grid.setRank(8, 1);
        Check.same("of a higher rank", grid.barrier(9), 8);
    }

    /** "if there is no such load" */
    static void promise33ThrowsWithoutSuchALoad() {
        Edges.numbers("barrier", 10, Scenes::loads, (g, load) -> g.barrier(load));
    }

    /** "if the load would be kept": at the bound it would, 1 above it would not */
    static void promise33ThrowsForALoadThatIsKept() {
        Check.refused("at the bound", Edges.NO_ELEMENT, () -> tenLoads(200), g -> g.barrier(9));
        Check.same("1 above the bound", tenLoads(199).barrier(9), 9);
        Check.refused("on the tied island", Edges.NO_ELEMENT, EdgesOfSupplyTest::tiedLoads, g -> g.barrier(9));
    }

    /** "0 for that one itself" */
    static void promise34Returns0ForTheBarrier() {
        for (int load = 0; load < 10; load++) {
            Islandgrid grid = tenLoads(200);
            grid.setReserve(200 - 20 * load);
            Check.same("behind of the load " + load, grid.behind(load), 0);
        }
    }

    /** "Returns the number of loads" - up to the most, counted in their order */
    static void promise34ReturnsTheNumberOfLoads() {
        Islandgrid grid = Scenes.loads(10);
        for (int load = 0; load < 10; load++) {
            Check.same("behind of the load " + load, grid.behind(load), load);
        }
        grid.setRank(0, 9);
        Check.same("behind of the lowest rank", grid.behind(0), 9);
        Check.same("behind of the highest rank", grid.behind(1), 0);
        Islandgrid some = tenLoads(100);
        Check.same("5 are kept, the last one", some.behind(9), 4);
    }

    /** "of the island": loads of another one do not count */
    static void promise34CountsTheIslandAlone() {
        Islandgrid grid = Scenes.lines(1);
        grid.addLoad(0, 20, 1);
        grid.addLoad(1, 20, 2);
        grid.addLoad(1, 20, 3);
        Check.same("alone", grid.behind(2), 1);
        grid.close(0);
        Check.same("joined", grid.behind(2), 2);
    }

    /** "if there is no such load" */
    static void promise34ThrowsWithoutSuchALoad() {
        Edges.numbers("behind", 10, Scenes::loads, (g, load) -> g.behind(load));
    }

    /** "if the load would be kept": at the bound it would, 1 above it would not */
    static void promise34ThrowsForALoadThatIsKept() {
        Check.refused("at the bound", Edges.NO_ELEMENT, () -> tenLoads(200), g -> g.behind(9));
        Check.same("1 above the bound", tenLoads(199).behind(9), 0);
        Check.refused("on the tied island", Edges.NO_ELEMENT, EdgesOfSupplyTest::tiedLoads, g -> g.behind(9));
    }

    // Promises 35 and 36

    /** Both ways to find what each of the generators 0 to n - 1 of the site 0 gives for a demand. */
    private static void sameShares(Islandgrid grid, int demand, int... due) {
        for (int generator = 0; generator < due.length; generator++) {
            String what = "(0, " + demand + ", " + generator + ")";
            Check.same("share" + what, grid.share(0, demand, generator), due[generator]);
            Check.same("shareBySteps" + what, grid.shareBySteps(0, demand, generator), due[generator]);
        }
    }

    /** A demand of 0: each gives its least power */
    static void promise35And36OfTheDemand0() {
        Islandgrid grid = running(50, 100, 40, 100);
        sameShares(grid, 0, 0, 0);
        grid.start(grid.addGenerator(0, 10, 50, 0, 100));
        sameShares(grid, 0, 0, 0, 10);
    }

    /** A demand that the least powers meet just so, 1 less, and 1 more */
    static void promise35And36OfTheLeastPowers() {
        Islandgrid grid = Scenes.sites(1);
        grid.start(grid.addGenerator(0, 10, 50, 0, 100));
        grid.start(grid.addGenerator(0, 20, 60, 0, 100));
        sameShares(grid, 29, 10, 20);
        sameShares(grid, 30, 10, 20);
        sameShares(grid, 31, 11, 20);
        sameShares(grid, 32, 11, 21);
    }

    /** A demand that all can meet just so, 1 less, and 1 more */
    static void promise35And36OfAllThatTheyCan() {
        Islandgrid grid = running(2, 100, 4, 100);
        sameShares(grid, 5, 2, 3);
        sameShares(grid, 6, 2, 4);
        sameShares(grid, 7, 2, 4);
        sameShares(grid, 1200, 2, 4);
    }

    /** "of several, by the one with the lowest number": six that are alike, with the least and the greatest demands */
    static void promise35And36OfSixThatAreAlike() {
        Islandgrid grid = running(200, 9999, 200, 9999, 200, 9999, 200, 9999, 200, 9999, 200, 9999);
        sameShares(grid, 1, 1, 0, 0, 0, 0, 0);
        sameShares(grid, 5, 1, 1, 1, 1, 1, 0);
        sameShares(grid, 6, 1, 1, 1, 1, 1, 1);
        sameShares(grid, 7, 2, 1, 1, 1, 1, 1);
        sameShares(grid, 1194, 199, 199, 199, 199, 199, 199);
        sameShares(grid, 1195, 200, 199, 199, 199, 199, 199);
        sameShares(grid, 1199, 200, 200, 200, 200, 200, 199);
        sameShares(grid, 1200, 200, 200, 200, 200, 200, 200);
    }

    /** "the quotient ... is least": equal quotients of unlike generators, with the lower number on either side */
    static void promise35And36OfEqualQuotients() {
        Islandgrid grid = running(4, 100, 2, 100);
        sameShares(grid, 3, 2, 1);
        sameShares(grid, 4, 3, 1);
        Islandgrid turned = running(2, 100, 4, 100);
        sameShares(turned, 3, 1, 2);
        sameShares(turned, 4, 2, 2);
    }

    /** "and one of them can give more": one whose least power is its greatest one never does */
    static void promise35And36OfOneThatCannotGiveMore() {
        Islandgrid grid = Scenes.sites(1);
        grid.start(grid.addGenerator(0, 10, 10, 0, 100));
        grid.start(grid.addGenerator(0, 0, 1, 0, 100));
        sameShares(grid, 0, 10, 0);
        sameShares(grid, 10, 10, 0);
        sameShares(grid, 11, 10, 1);
        sameShares(grid, 12, 10, 1);
        grid.stop(1);
        sameShares(grid, 1200, 10);
    }

    /** "of what it can give above that, as told under Supply": the fuel just as much as the least power, and 1 more */
    static void promise35And36OfLittleFuel() {
        Islandgrid grid = Scenes.sites(1);
        grid.start(grid.addGenerator(0, 10, 50, 0, 10));
        grid.start(grid.addGenerator(0, 10, 50, 0, 11));
        sameShares(grid, 20, 10, 10);
        sameShares(grid, 21, 10, 11);
        sameShares(grid, 22, 10, 11);
        grid.refuel(0, 2);
        sameShares(grid, 21, 11, 10);
        sameShares(grid, 22, 11, 11);
        sameShares(grid, 23, 12, 11);
    }

    /** The same words: less fuel than the least power, between two ticks; it can give nothing above that */
    static void promise35And36OfTooLittleFuel() {
        Islandgrid grid = Scenes.shortOfFuel();
        for (int demand : new int[] {0, 5, 10, 11, 1200}) {
            Check.same("share of " + demand, grid.share(1, demand, 0), 10);
            Check.same("shareBySteps of " + demand, grid.shareBySteps(1, demand, 0), 10);
        }
    }

    /** The same words, with another one beside it: what that one gives starts above the least power of both */
    static void promise35And36OfTooLittleFuelBesideAnother() {
        Islandgrid grid = Scenes.sites(1);
        grid.start(grid.addGenerator(0, 10, 50, 0, 50));
        grid.addLoad(0, 45, 1);
        grid.pass(1);
        grid.start(grid.addGenerator(0, 0, 40, 0, 100));
        sameShares(grid, 0, 10, 0);
        sameShares(grid, 10, 10, 0);
        sameShares(grid, 11, 10, 1);
        sameShares(grid, 12, 10, 2);
        sameShares(grid, 50, 10, 40);
        sameShares(grid, 51, 10, 40);
    }

    /** One that is alone gives each demand from its least power to its greatest one. */
    static void promise35OfEachDemand() {
        Islandgrid grid = running(200, 9999);
        for (int demand = 0; demand <= 203; demand++) {
            Check.same("share of " + demand, grid.share(0, demand, 0), Math.min(demand, 200));
        }
    }

    /** The same, found step by step */
    static void promise36OfEachDemand() {
        Islandgrid grid = running(200, 9999);
        for (int demand = 0; demand <= 203; demand++) {
            Check.same("shareBySteps of " + demand, grid.shareBySteps(0, demand, 0), Math.min(demand, 200));
        }
    }

    /** Neither of the two calls needs another one ahead of it. */
    static void promise35And36AsTheFirstCall() {
        Check.same("share", running(2, 100, 4, 100).share(0, 3, 1), 2);
        Check.same("shareBySteps", running(2, 100, 4, 100).shareBySteps(0, 3, 1), 2);
        Islandgrid grid = Scenes.sites(2);
        grid.start(grid.addGenerator(0, 0, 10, 0, 100));
        grid.start(grid.addGenerator(1, 0, 20, 0, 100));
        Check.same("share here", grid.share(0, 15, 0), 10);
        Check.same("shareBySteps there", grid.shareBySteps(1, 15, 1), 15);
        Check.same("share here again", grid.share(0, 5, 0), 5);
        Check.same("shareBySteps there again", grid.shareBySteps(1, 25, 1), 20);
    }

    /** Least powers and steps are of those that run on this island alone: not of others, off or warming up. */
    static void promise35And36OfThoseThatRunHereAlone() {
        Islandgrid grid = Scenes.sites(2);
        grid.start(grid.addGenerator(0, 10, 50, 0, 100));
        grid.addGenerator(0, 20, 60, 0, 100);
        grid.start(grid.addGenerator(0, 20, 60, 9, 100));
        grid.start(grid.addGenerator(1, 20, 60, 0, 100));
        sameShares(grid, 10, 10);
        sameShares(grid, 11, 11);
        sameShares(grid, 50, 50);
    }

    /** The answer is for "a demand", whatever the loads take; no fuel is burnt. */
    static void promise35And36ChangeNothing() {
        Islandgrid grid = Scenes.running();
        grid.share(0, 1200, 0);
        grid.shareBySteps(0, 1200, 0);
        Check.samePicture("share", grid, Scenes.running());
    }

    private static Islandgrid sitesWithOne(int sites) {
        Islandgrid grid = Scenes.sites(sites);
        if (sites > 0) {
            grid.start(grid.addGenerator(0, 10, 50, 0, 100));
        }
        return grid;
    }

    /** "if there is no such site or generator": the site */
    static void promise35And36ThrowWithoutSuchASite() {
        Edges.numbers("share, site", 6, EdgesOfSupplyTest::sitesWithOne, (g, site) -> g.share(site, 50, 0));
        Edges.numbers("shareBySteps, site", 6, EdgesOfSupplyTest::sitesWithOne,
                (g, site) -> g.shareBySteps(site, 50, 0));
    }

    /** "if there is no such site or generator": the generator */
    static void promise35And36ThrowWithoutSuchAGenerator() {
        Edges.numbers("share, generator", 6, Scenes::generators, (g, generator) -> g.share(0, 50, generator));
        Edges.numbers("shareBySteps, generator", 6, Scenes::generators,
                (g, generator) -> g.shareBySteps(0, 50, generator));
    }

    /** "if the demand is not between 0 and 1200" */
    static void promise35And36ThrowForADemandBeyond0To1200() {
        Edges.range("share, demand", 0, 1200, Scenes::running, (g, demand) -> g.share(0, demand, 0));
        Edges.range("shareBySteps, demand", 0, 1200, Scenes::running, (g, demand) -> g.shareBySteps(0, demand, 0));
    }

    private static Islandgrid warmingUp(int ticks) {
        Islandgrid grid = Scenes.generators(1);
        grid.start(0);
        for (int tick = 0; tick < ticks; tick++) {
            grid.pass(1);
        }
        return grid;
    }

    /** "if the generator does not run on this island": it is off, or warms up */
    static void promise35And36ThrowForOneThatDoesNotRun() {
        Check.refused("share, off", Edges.NO_ELEMENT, () -> Scenes.generators(1), g -> g.share(0, 50, 0));
        Check.refused("shareBySteps, off", Edges.NO_ELEMENT, () -> Scenes.generators(1),
                g -> g.shareBySteps(0, 50, 0));
        Check.refused("share, 1 tick to go", Edges.NO_ELEMENT, () -> warmingUp(1), g -> g.share(0, 50, 0));
        Check.refused("shareBySteps, 1 tick to go", Edges.NO_ELEMENT, () -> warmingUp(1),
                g -> g.shareBySteps(0, 50, 0));
        Check.same("share, no tick to go", warmingUp(2).share(0, 50, 0), 50);
        Check.same("shareBySteps, no tick to go", warmingUp(2).shareBySteps(0, 50, 0), 50);
    }

    /** The same words: it runs on another island, and behind a line that is closed on this one */
    static void promise35And36ThrowForOneOfAnotherIsland() {
        Check.refused("share", Edges.NO_ELEMENT, Scenes::shortOfFuel, g -> g.share(0, 50, 0));
        Check.refused("shareBySteps", Edges.NO_ELEMENT, Scenes::shortOfFuel, g -> g.shareBySteps(0, 50, 0));
        Islandgrid grid = Scenes.lines(1);
        grid.start(grid.addGenerator(1, 10, 50, 0, 100));
        Edges.throwsOn("share, open", Edges.NO_ELEMENT, grid, g -> g.share(0, 50, 0));
        grid.close(0);
        Check.same("share, closed", grid.share(0, 50, 0), 50);
        Check.same("shareBySteps, closed", grid.shareBySteps(0, 50, 0), 50);
    }
}
