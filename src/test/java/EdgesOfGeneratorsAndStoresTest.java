/** The edges that "Generators", "Stores" and the promises 14 to 23 name: one test for each sentence. */
public final class EdgesOfGeneratorsAndStoresTest {
    public static void main(String[] args) {
        Check.runAll(EdgesOfGeneratorsAndStoresTest.class);
    }

    private static Islandgrid one() {
        return Scenes.sites(1);
    }

    // Generators

    /** "At most 6 generators have the numbers 0 to n - 1." */
    static void terms06GeneratorsHaveTheNumbers0To5() {
        for (int count = 0; count <= 6; count++) {
            Islandgrid grid = Scenes.generators(count);
            for (int generator = 0; generator < count; generator++) {
                Check.same("fuel of " + generator + " of " + count, grid.fuel(generator), 100);
            }
            int next = count;
            Edges.throwsOn("the one behind the last of " + count, Edges.NO_INDEX, grid, g -> g.fuel(next));
        }
    }

    /** "It is off, as at first, warms up or runs." */
    static void termsAGeneratorIsOffAtFirst() {
        Islandgrid grid = Scenes.generators(6);
        for (int generator = 0; generator < 6; generator++) {
            Check.same("state of " + generator, grid.state(generator), 'o');
        }
        Check.same("bound", grid.bound(0), 0);
    }

    /** "One that is started warms up for as many ticks as its warm-up tells, and runs behind that" */
    static void termsAGeneratorWarmsUpForItsWarmUp() {
        for (int warmUp = 1; warmUp <= 9; warmUp++) {
            Islandgrid grid = Scenes.generator(10, 50, warmUp, 100);
            grid.start(0);
            Check.same("at once, of " + warmUp, grid.state(0), 'w');
            for (int tick = 1; tick < warmUp; tick++) {
                grid.pass(1);
                Check.same("behind " + tick + " of " + warmUp, grid.state(0), 'w');
                Check.same("given behind " + tick + " of " + warmUp, grid.given(0), 0);
            }
            grid.pass(1);
            Check.same("behind " + warmUp, grid.state(0), 'r');
            Check.same("given behind " + warmUp, grid.given(0), 10);
        }
    }

    /** The same sentence, all ticks in one call */
    static void termsAGeneratorWarmsUpWithinOneCall() {
        Islandgrid grid = Scenes.generator(10, 50, 9, 100);
        grid.start(0);
        grid.pass(8);
        Check.same("behind 8 ticks", grid.state(0), 'w');
        Islandgrid other = Scenes.generator(10, 50, 9, 100);
        other.start(0);
        other.pass(9);
        Check.same("behind 9 ticks", other.state(0), 'r');
        Check.same("fuel behind 9 ticks", other.fuel(0), 90);
        Islandgrid third = Scenes.generator(10, 50, 9, 100);
        third.start(0);
        third.pass(12);
        Check.same("fuel behind 12 ticks", third.fuel(0), 60);
    }

    /** "without a warm-up it runs at once" */
    static void termsAGeneratorWithoutAWarmUpRunsAtOnce() {
        Islandgrid grid = Scenes.generator(10, 50, 0, 100);
        Check.same("start", grid.start(0), 0);
        Check.same("state", grid.state(0), 'r');
        Check.same("bound", grid.bound(1), 50);
        Check.same("share", grid.share(1, 30, 0), 30);
        Edges.throwsOn("toGo", Edges.NO_ELEMENT, grid, g -> g.toGo(0));
        grid.pass(1);
        Check.same("given in the first tick", grid.given(0), 10);
    }

    /** The same sentence, for one that startNext starts */
    static void termsAGeneratorWithoutAWarmUpRunsAtOnceByStartNext() {
        Islandgrid grid = Scenes.generator(10, 50, 0, 100);
        Check.same("startNext", grid.startNext(1), 0);
        Check.same("state", grid.state(0), 'r');
    }

    /** "Only one that runs gives power." - not one that is off, nor one in its last tick of warm-up */
    static void termsOnlyOneThatRunsGivesPower() {
        Islandgrid grid = Scenes.generators(3);
        grid.start(0);
        grid.pass(1);
        Check.same("one tick to go", grid.toGo(0), 1);
        Check.same("bound", grid.bound(0), 0);
        Check.same("given of one that warms up", grid.given(0), 0);
        Check.same("fuel of one that warms up", grid.fuel(0), 100);
        Check.same("given of one that is off", grid.given(1), 0);
        grid.pass(1);
        Check.same("bound behind its warm-up", grid.bound(0), 50);
        grid.stop(0);
        Check.same("bound behind stop", grid.bound(0), 0);
        grid.pass(1);
        Check.same("given behind stop", grid.given(0), 0);
    }

    // Stores

    /** "At most 4 stores have the numbers 0 to n - 1." */
    static void terms04StoresHaveTheNumbers0To3() {
        for (int count = 0; count <= 4; count++) {
            Islandgrid grid = Scenes.stores(count);
            for (int store = 0; store < count; store++) {
                Check.same("charge of " + store + " of " + count, grid.charge(store), 0);
            }
            int next = count;
            Edges.throwsOn("the one behind the last of " + count, Edges.NO_INDEX, grid, g -> g.charge(next));
        }
    }

    /** "A store is at a site and has a capacity, a rate and a charge, at first 0." - later ones too */
    static void termsAStoreIsEmptyAtFirst() {
        Islandgrid grid = Scenes.charged(50, 20, 20, 2);
        Check.same("a charged one", grid.charge(0), 40);
        grid.addStore(0, 50, 20);
        Check.same("a new one beside it", grid.charge(1), 0);
    }

    // Promise 14

    /** "Returns the number of the generator." */
    static void promise14ReturnsTheNumbers0To5() {
        Islandgrid grid = one();
        for (int generator = 0; generator < 6; generator++) {
            Check.same("addGenerator", grid.addGenerator(0, 1, 2, 3, 4), generator);
        }
    }

    /** "if there is no such site" */
    static void promise14ThrowsWithoutSuchASite() {
        Edges.numbers("addGenerator", 6, Scenes::sites, (g, site) -> g.addGenerator(site, 1, 2, 3, 4));
    }

    /** "if the least power is not between 0 and 100" */
    static void promise14ThrowsForALeastPowerBeyond0To100() {
        Edges.range("least power", 0, 100, EdgesOfGeneratorsAndStoresTest::one,
                (g, least) -> g.addGenerator(0, least, 200, 0, 10));
    }

    /** "the greatest one not between 1 and 200" */
    static void promise14ThrowsForAGreatestPowerBeyond1To200() {
        Edges.range("greatest power", 1, 200, EdgesOfGeneratorsAndStoresTest::one,
                (g, greatest) -> g.addGenerator(0, 0, greatest, 0, 10));
    }

    /** "or less than the least one": equal is allowed, 1 less is not */
    static void promise14ThrowsForAGreatestPowerLessThanTheLeastOne() {
        for (int least : new int[] {1, 2, 50, 99, 100}) {
            Check.same("both " + least, one().addGenerator(0, least, least, 0, 10), 0);
            Check.refused("1 less than " + least, Edges.BAD_ARGUMENT, EdgesOfGeneratorsAndStoresTest::one,
                    g -> g.addGenerator(0, least, least - 1, 0, 10));
        }
    }

    /** "the warm-up not between 0 and 9" */
    static void promise14ThrowsForAWarmUpBeyond0To9() {
        Edges.range("warm-up", 0, 9, EdgesOfGeneratorsAndStoresTest::one,
                (g, warmUp) -> g.addGenerator(0, 0, 10, warmUp, 10));
    }

    /** "or the fuel not between 0 and 9999" */
    static void promise14ThrowsForFuelBeyond0To9999() {
        Edges.range("fuel", 0, 9999, EdgesOfGeneratorsAndStoresTest::one,
                (g, fuel) -> g.addGenerator(0, 0, 10, 0, fuel));
    }

    /** "if there are 6 generators" */
    static void promise14ThrowsWith6Generators() {
        Check.same("with 5", Scenes.generators(5).addGenerator(0, 1, 2, 3, 4), 5);
        Check.refused("with 6", Edges.BAD_STATE, () -> Scenes.generators(6), g -> g.addGenerator(0, 1, 2, 3, 4));
    }

    /** The least and the greatest values are what the generator has then. */
    static void promise14TakesTheLeastAndTheGreatestValues() {
        Islandgrid least = Scenes.generator(0, 1, 0, 0);
        Check.same("least: fuel", least.fuel(0), 0);
        Check.same("least: start", least.start(0), 0);
        least.refuel(0, 2);
        Check.same("least: bound", least.bound(1), 1);
        Check.same("least: share of 0", least.share(1, 0, 0), 0);
        Check.same("least: share of 1", least.share(1, 1, 0), 1);
        Islandgrid greatest = Scenes.generator(100, 200, 9, 9999);
        Check.same("greatest: fuel", greatest.fuel(0), 9999);
        Check.same("greatest: start", greatest.start(0), 9);
        greatest.pass(9);
        Check.same("greatest: bound", greatest.bound(1), 200);
        Check.same("greatest: given", greatest.given(0), 100);
        Check.same("greatest: share", greatest.share(1, 1200, 0), 200);
    }

    // Promise 15

    /** "Returns for how many ticks it warms up." the least and the most */
    static void promise15ReturnsTheWarmUp() {
        for (int warmUp = 0; warmUp <= 9; warmUp++) {
            Check.same("start", Scenes.generator(10, 50, warmUp, 100).start(0), warmUp);
        }
    }

    /** "if there is no such generator" */
    static void promise15ThrowsWithoutSuchAGenerator() {
        Edges.numbers("start", 6, Scenes::generators, (g, generator) -> g.start(generator));
    }

    /** "if it is not off": it warms up */
    static void promise15ThrowsForOneThatWarmsUp() {
        Check.refused("start twice", Edges.BAD_STATE, () -> {
            Islandgrid grid = Scenes.generators(1);
            grid.start(0);
            return grid;
        }, g -> g.start(0));
        Check.refused("start with one tick to go", Edges.BAD_STATE, () -> {
            Islandgrid grid = Scenes.generators(1);
            grid.start(0);
            grid.pass(1);
            return grid;
        }, g -> g.start(0));
    }

    /** "if it is not off": it runs */
    static void promise15ThrowsForOneThatRuns() {
        Check.refused("start of one that runs", Edges.BAD_STATE, Scenes::running, g -> g.start(0));
    }

    /** "if its fuel is less than its least power": just as much, and 1 less */
    static void promise15ThrowsForTooLittleFuel() {
        for (int least : new int[] {1, 10, 100}) {
            Check.same("just as much as " + least, Scenes.generator(least, 200, 3, least).start(0), 3);
            Check.refused("1 less than " + least, Edges.NO_ELEMENT,
                    () -> Scenes.generator(least, 200, 3, least - 1), g -> g.start(0));
        }
        Check.same("without fuel, least power 0", Scenes.generator(0, 200, 3, 0).start(0), 3);
        Islandgrid grid = Scenes.generator(10, 50, 0, 9);
        grid.refuel(0, 1);
        Check.same("1 more by refuel", grid.start(0), 0);
    }

    // Promise 16

    /** "Returns its fuel." the least and the most */
    static void promise16ReturnsTheFuel() {
        Islandgrid empty = Scenes.generator(0, 50, 0, 0);
        empty.start(0);
        Check.same("stop without fuel", empty.stop(0), 0);
        Islandgrid most = Scenes.generator(10, 50, 0, 9999);
        for (int time = 0; time < 9; time++) {
            most.refuel(0, 9999);
        }
        most.refuel(0, 9);
        most.start(0);
        Check.same("stop with the most fuel", most.stop(0), 99999);
        Islandgrid burnt = Scenes.generator(10, 50, 0, 10);
        burnt.start(0);
        burnt.pass(1);
        Check.same("stop behind the last fuel", burnt.stop(0), 0);
    }

    /** "if there is no such generator" */
    static void promise16ThrowsWithoutSuchAGenerator() {
        Edges.numbers("stop", 6, Scenes::generators, (g, generator) -> g.stop(generator));
    }

    /** "if it is off": at first, behind stop, and without fuel */
    static void promise16ThrowsForOneThatIsOff() {
        Check.refused("stop at first", Edges.BAD_STATE, () -> Scenes.generators(1), g -> g.stop(0));
        Check.refused("stop twice", Edges.BAD_STATE, () -> {
            Islandgrid grid = Scenes.generators(1);
            grid.start(0);
            grid.stop(0);
            return grid;
        }, g -> g.stop(0));
        Check.refused("stop of one that went off", Edges.BAD_STATE, () -> {
            Islandgrid grid = Scenes.shortOfFuel();
            grid.pass(1);
            return grid;
        }, g -> g.stop(0));
        Check.same("stop of one that goes off in the next tick", Scenes.shortOfFuel().stop(0), 5);
    }

    // Promise 17

    private static Islandgrid pair(int greatest, int warmUp, int otherGreatest, int otherWarmUp) {
        Islandgrid grid = Scenes.sites(1);
        grid.addGenerator(0, 10, greatest, warmUp, 100);
        grid.addGenerator(0, 10, otherGreatest, otherWarmUp, 100);
        return grid;
    }

    /** "has the shortest warm-up" - whatever the powers are */
    static void promise17TakesTheShortestWarmUp() {
        Check.same("1 less", pair(200, 5, 10, 4).startNext(0), 1);
        Check.same("1 more", pair(10, 4, 200, 5).startNext(0), 0);
        Check.same("none", pair(200, 1, 10, 0).startNext(0), 1);
        Check.same("the most", pair(10, 8, 200, 9).startNext(0), 0);
    }

    /** "of several, the one with the greatest power" */
    static void promise17TakesTheGreatestPowerOfSeveral() {
        Check.same("1 more", pair(50, 5, 51, 5).startNext(0), 1);
        Check.same("1 less", pair(51, 5, 50, 5).startNext(0), 0);
    }

    /** "and then the one with the lowest number" */
    static void promise17TakesTheLowestNumberThen() {
        Islandgrid grid = Scenes.generators(6);
        for (int due = 0; due < 6; due++) {
            Check.same("startNext", grid.startNext(0), due);
        }
        Edges.throwsOn("startNext behind all", Edges.NO_ELEMENT, grid, g -> g.startNext(0));
    }

    /** "that is off" - not one that warms up or runs */
    static void promise17TakesOneThatIsOff() {
        Islandgrid grid = pair(50, 0, 40, 1);
        grid.start(0);
        Check.same("the first one runs", grid.startNext(0), 1);
        Edges.throwsOn("one runs, one warms up", Edges.NO_ELEMENT, grid, g -> g.startNext(0));
        grid.stop(1);
        Check.same("the second one is off again", grid.startNext(0), 1);
    }

    /** "has at least as much fuel as its least power": just as much, and 1 less */
    static void promise17TakesOneWithFuel() {
        Check.same("just as much", Scenes.generator(10, 50, 3, 10).startNext(1), 0);
        Check.refused("1 less", Edges.NO_ELEMENT, () -> Scenes.generator(10, 50, 3, 9), g -> g.startNext(1));
        Check.same("none, least power 0", Scenes.generator(0, 50, 3, 0).startNext(1), 0);
        Islandgrid grid = Scenes.sites(1);
        grid.addGenerator(0, 10, 200, 0, 9);
        grid.addGenerator(0, 10, 50, 9, 10);
        Check.same("the better one has 1 less", grid.startNext(0), 1);
    }

    /** "the generator of the island of a site" - of another site of the island too, but of no other island */
    static void promise17TakesOneOfTheIsland() {
        Islandgrid grid = Scenes.lines(1);
        grid.addGenerator(1, 10, 50, 3, 100);
        Edges.throwsOn("on another island", Edges.NO_ELEMENT, grid, g -> g.startNext(0));
        grid.close(0);
        Check.same("on the same island", grid.startNext(0), 0);
    }

    /** "if there is no such site" */
    static void promise17ThrowsWithoutSuchASite() {
        Edges.numbers("startNext", 6, Scenes::sites, (g, site) -> g.startNext(site));
    }

    /** "if there is none" */
    static void promise17ThrowsIfThereIsNone() {
        Check.refused("without a generator", Edges.NO_ELEMENT, () -> Scenes.sites(6), g -> g.startNext(5));
        Check.refused("with one that runs", Edges.NO_ELEMENT, Scenes::running, g -> g.startNext(0));
    }

    // Promise 18

    /** A generator with the fuel 99989 + more, for more up to 10. */
    private static Islandgrid almostFull(int more) {
        Islandgrid grid = Scenes.generator(10, 50, 0, 9999);
        for (int time = 0; time < 9; time++) {
            grid.refuel(0, time == 0 ? 9998 : 9999);
        }
        for (int time = 0; time < more; time++) {
            grid.refuel(0, 1);
        }
        return grid;
    }

    /** "Returns the fuel that it has then." */
    static void promise18ReturnsTheFuelThen() {
        Islandgrid grid = Scenes.generator(10, 50, 0, 0);
        Check.same("the least", grid.refuel(0, 1), 1);
        Check.same("the most at once", grid.refuel(0, 9999), 10000);
        Check.same("the most in all", almostFull(0).refuel(0, 10), 99999);
        Check.same("the most in all by 1", almostFull(9).refuel(0, 1), 99999);
    }

    /** "if there is no such generator" */
    static void promise18ThrowsWithoutSuchAGenerator() {
        Edges.numbers("refuel", 6, Scenes::generators, (g, generator) -> g.refuel(generator, 5));
    }

    /** "if it is not between 1 and 9999" */
    static void promise18ThrowsForFuelBeyond1To9999() {
        Edges.range("fuel", 1, 9999, () -> Scenes.generators(1), (g, fuel) -> g.refuel(0, fuel));
    }

    /** "if it would have more than 99999": 99999, and 1 more */
    static void promise18ThrowsForMoreThan99999() {
        Check.refused("99989 and 11", Edges.BAD_STATE, () -> almostFull(0), g -> g.refuel(0, 11));
        Check.refused("99990 and 10", Edges.BAD_STATE, () -> almostFull(1), g -> g.refuel(0, 10));
        Check.refused("99989 and 9999", Edges.BAD_STATE, () -> almostFull(0), g -> g.refuel(0, 9999));
        Check.refused("99999 and 1", Edges.BAD_STATE, () -> almostFull(10), g -> g.refuel(0, 1));
        Islandgrid grid = almostFull(10);
        grid.start(0);
        grid.pass(1);
        Check.same("10 are burnt, and there is room for 10", grid.refuel(0, 10), 99999);
    }

    // Promises 19 to 21

    /** "Returns 'o' if it is off, 'w' if it warms up, 'r' if it runs." */
    static void promise19ReturnsAState() {
        Islandgrid grid = Scenes.generator(10, 50, 1, 19);
        Check.same("off at first", grid.state(0), 'o');
        grid.start(0);
        Check.same("warms up", grid.state(0), 'w');
        grid.pass(1);
        Check.same("runs", grid.state(0), 'r');
        grid.pass(1);
        Check.same("off, 1 less than its least power", grid.state(0), 'o');
    }

    /** "if there is no such generator" */
    static void promise19ThrowsWithoutSuchAGenerator() {
        Edges.numbers("state", 6, Scenes::generators, (g, generator) -> g.state(generator));
    }

    /** "Returns the fuel." the least and the most */
    static void promise20ReturnsTheFuel() {
        Check.same("none", Scenes.generator(0, 50, 0, 0).fuel(0), 0);
        Check.same("the most at first", Scenes.generator(0, 50, 0, 9999).fuel(0), 9999);
        Check.same("the most", almostFull(10).fuel(0), 99999);
        Islandgrid grid = Scenes.generator(10, 50, 0, 10);
        grid.start(0);
        grid.pass(1);
        Check.same("the last is burnt", grid.fuel(0), 0);
    }

    /** "if there is no such generator" */
    static void promise20ThrowsWithoutSuchAGenerator() {
        Edges.numbers("fuel", 6, Scenes::generators, (g, generator) -> g.fuel(generator));
    }

    /** "Returns the number of ticks." from the most to 1 */
    static void promise21ReturnsTheTicks() {
        Islandgrid grid = Scenes.generator(10, 50, 9, 100);
        grid.start(0);
        for (int left = 9; left > 0; left--) {
            Check.same("toGo", grid.toGo(0), left);
            grid.pass(1);
        }
        grid.stop(0);
        grid.start(0);
        Check.same("from the most again", grid.toGo(0), 9);
    }

    /** "if there is no such generator" */
    static void promise21ThrowsWithoutSuchAGenerator() {
        Edges.numbers("toGo", 6, Scenes::generators, (g, generator) -> g.toGo(generator));
    }

    /** "if it does not warm up": it is off, it runs, it has just begun to run, it was stopped */
    static void promise21ThrowsForOneThatDoesNotWarmUp() {
        Check.refused("it is off", Edges.NO_ELEMENT, () -> Scenes.generators(1), g -> g.toGo(0));
        Check.refused("it runs", Edges.NO_ELEMENT, Scenes::running, g -> g.toGo(0));
        Check.refused("it has begun to run", Edges.NO_ELEMENT, () -> {
            Islandgrid grid = Scenes.generators(1);
            grid.start(0);
            grid.pass(2);
            return grid;
        }, g -> g.toGo(0));
        Check.refused("it was stopped", Edges.NO_ELEMENT, () -> {
            Islandgrid grid = Scenes.generators(1);
            grid.start(0);
            grid.stop(0);
            return grid;
        }, g -> g.toGo(0));
    }

    // Promises 22 and 23

    /** "Returns the number of the store." */
    static void promise22ReturnsTheNumbers0To3() {
        Islandgrid grid = one();
        for (int store = 0; store < 4; store++) {
            Check.same("addStore", grid.addStore(0, 5, 5), store);
        }
    }

    /** "Adds an empty store." with the least and the greatest values */
    static void promise22AddsAnEmptyStore() {
        Islandgrid grid = one();
        grid.addStore(0, 1, 1);
        grid.addStore(0, 999, 99);
        grid.addStore(0, 1, 99);
        grid.addStore(0, 999, 1);
        for (int store = 0; store < 4; store++) {
            Check.same("charge", grid.charge(store), 0);
            Check.same("flow", grid.flow(store), 0);
        }
        Check.same("bound", grid.bound(0), 0);
    }

    /** "if there is no such site" */
    static void promise22ThrowsWithoutSuchASite() {
        Edges.numbers("addStore", 6, Scenes::sites, (g, site) -> g.addStore(site, 5, 5));
    }

    /** "if the capacity is not between 1 and 999" */
    static void promise22ThrowsForACapacityBeyond1To999() {
        Edges.range("capacity", 1, 999, EdgesOfGeneratorsAndStoresTest::one,
                (g, capacity) -> g.addStore(0, capacity, 5));
    }

    /** "or the rate not between 1 and 99" */
    static void promise22ThrowsForARateBeyond1To99() {
        Edges.range("rate", 1, 99, EdgesOfGeneratorsAndStoresTest::one, (g, rate) -> g.addStore(0, 50, rate));
    }

    /** "if there are 4 stores" */
    static void promise22ThrowsWith4Stores() {
        Check.same("with 3", Scenes.stores(3).addStore(0, 5, 5), 3);
        Check.refused("with 4", Edges.BAD_STATE, () -> Scenes.stores(4), g -> g.addStore(0, 5, 5));
    }

    /** "Returns the charge." of a store that is empty, almost full and full */
    static void promise23ReturnsTheCharge() {
        Islandgrid grid = one();
        grid.addStore(0, 41, 20);
        grid.addGenerator(0, 20, 20, 0, 9999);
        grid.start(0);
        int[] due = {0, 20, 40, 41, 41};
        for (int charge : due) {
            Check.same("charge", grid.charge(0), charge);
            grid.pass(1);
        }
        Check.same("charge of the least store", Scenes.charged(1, 1, 100, 1).charge(0), 1);
        Check.same("charge of the greatest store behind 10 ticks",
                Scenes.charged(999, 99, 100, 10).charge(0), 990);
        Check.same("charge of the greatest store, full", Scenes.charged(999, 99, 100, 11).charge(0), 999);
        Check.same("charge of the greatest store, still full", Scenes.charged(999, 99, 100, 12).charge(0), 999);
    }

    /** "if there is no such store" */
    static void promise23ThrowsWithoutSuchAStore() {
        Edges.numbers("charge", 4, Scenes::stores, (g, store) -> g.charge(store));
    }
}
