/** The edges that "Ticks", "Flows" and the promises 37 to 46 name: one test for each sentence. */
public final class EdgesOfTicksTest {
    public static void main(String[] args) {
        Check.runAll(EdgesOfTicksTest.class);
    }

    /** One site with one generator that runs; its least power and its greatest one are told. */
    private static Islandgrid made(int least, int greatest) {
        Islandgrid grid = Scenes.sites(1);
        grid.start(grid.addGenerator(0, least, greatest, 0, 9999));
        return grid;
    }

    private static void sameStore(String what, Islandgrid grid, int store, int flow, int charge) {
        Check.same(what + ", flow " + store, grid.flow(store), flow);
        Check.same(what + ", charge " + store, grid.charge(store), charge);
    }

    // Ticks

    /** "the time, at first 0, increases by 1" */
    static void ticksIncreaseTheTimeBy1() {
        Islandgrid grid = new Islandgrid();
        Check.same("at first", grid.now(), 0);
        for (int time = 1; time <= 20; time++) {
            grid.pass(1);
            Check.same("behind a tick", grid.now(), time);
        }
        Check.same("of a grid with sites", tickOf(Scenes.full()), 3);
    }

    private static int tickOf(Islandgrid grid) {
        grid.pass(1);
        return grid.now();
    }

    /** "First, each generator that warms up has one tick less to go, and runs if none is left." */
    static void ticksFirstWarmUpEachGenerator() {
        Islandgrid grid = Scenes.sites(1);
        grid.addGenerator(0, 10, 50, 1, 100);
        grid.addGenerator(0, 10, 50, 2, 100);
        grid.addGenerator(0, 10, 50, 9, 100);
        grid.addGenerator(0, 10, 50, 9, 100);
        for (int generator = 0; generator < 3; generator++) {
            grid.start(generator);
        }
        grid.pass(1);
        Check.same("1 less than 1", grid.state(0), 'r');
        Check.same("1 less than 2", grid.toGo(1), 1);
        Check.same("1 less than 9", grid.toGo(2), 8);
        Check.same("one that is off", grid.state(3), 'o');
        grid.pass(1);
        Check.same("1 less than 1, the next one", grid.state(1), 'r');
        Check.same("1 less than 8", grid.toGo(2), 7);
    }

    /** The same sentence: one that has just begun to run is there for the balance of this tick */
    static void ticksBalanceWithOneThatHasJustBegun() {
        Islandgrid grid = Scenes.sites(1);
        grid.addGenerator(0, 0, 50, 1, 100);
        grid.addLoad(0, 50, 1);
        grid.start(0);
        Check.same("bound ahead of the tick", grid.bound(0), 0);
        Check.same("the load stays lit", grid.pass(1), 1);
        Check.same("given", grid.given(0), 50);
    }

    /** "Second, each running generator that has less fuel than its least power goes off.": just as much */
    static void ticksLetOneWithJustAsMuchFuelRun() {
        Islandgrid grid = Scenes.generator(10, 50, 0, 20);
        grid.start(0);
        grid.pass(1);
        Check.same("fuel", grid.fuel(0), 10);
        grid.pass(1);
        Check.same("given of the last fuel", grid.given(0), 10);
        Check.same("fuel behind that", grid.fuel(0), 0);
        Check.same("state behind that", grid.state(0), 'r');
        grid.pass(1);
        Check.same("state without fuel", grid.state(0), 'o');
        Check.same("given without fuel", grid.given(0), 0);
    }

    /** The same sentence: 1 less */
    static void ticksSwitchOneWith1LessOff() {
        Islandgrid grid = Scenes.generator(10, 50, 0, 19);
        grid.start(0);
        grid.pass(1);
        Check.same("fuel", grid.fuel(0), 9);
        Check.same("state ahead of the tick", grid.state(0), 'r');
        grid.pass(1);
        Check.same("state", grid.state(0), 'o');
        Check.same("given", grid.given(0), 0);
        Check.same("fuel that is left", grid.fuel(0), 9);
        Check.same("bound", grid.bound(1), 0);
        grid.refuel(0, 1);
        grid.pass(1);
        Check.same("it stays off", grid.state(0), 'o');
    }

    /** The same sentence: 1 less, but refuelled ahead of the tick */
    static void ticksLetOneRunThatIsRefuelledInTime() {
        Islandgrid grid = Scenes.generator(10, 50, 0, 19);
        grid.start(0);
        grid.pass(1);
        grid.refuel(0, 1);
        grid.pass(1);
        Check.same("state", grid.state(0), 'r');
        Check.same("given", grid.given(0), 10);
    }

    /** The same sentence: the least power 0 is never more than the fuel */
    static void ticksLetOneWithTheLeastPower0Run() {
        Islandgrid grid = Scenes.generator(0, 50, 0, 0);
        grid.start(0);
        grid.pass(12);
        Check.same("state", grid.state(0), 'r');
        Check.same("given", grid.given(0), 0);
        Check.same("fuel", grid.fuel(0), 0);
    }

    /** The same sentence: its load is shed in the tick in which it goes off, ahead of the balance */
    static void ticksShedTheLoadOfOneThatGoesOff() {
        Islandgrid grid = Scenes.shortOfFuel();
        Check.same("lit ahead of the tick", grid.isLit(0), true);
        Check.same("pass", grid.pass(1), 0);
        Check.same("served of the tick ahead alone", grid.served(), 45);
    }

    /** "Third, each island is balanced, by rising numbers." - each by what it has itself */
    static void ticksBalanceEachIslandByItself() {
        Islandgrid grid = Scenes.sites(6);
        for (int site = 0; site < 6; site++) {
            grid.start(grid.addGenerator(site, 0, 10 + site, 0, 100));
            grid.addLoad(site, 13, 1);
        }
        Check.same("loads of 13 within 10 to 15", grid.pass(1), 3);
        for (int site = 0; site < 6; site++) {
            Check.same("given at the site " + site, grid.given(site), site < 3 ? 0 : 13);
        }
    }

    // Flows

    /** "Each of its running generators gives its least power first.": a demand of 0 */
    static void flowsOfTheDemand0() {
        Islandgrid grid = made(10, 50);
        grid.pass(1);
        Check.same("given", grid.given(0), 10);
        Check.same("lost", grid.lost(), 10);
        Islandgrid idle = made(0, 50);
        idle.pass(1);
        Check.same("given, least power 0", idle.given(0), 0);
        Check.same("lost, least power 0", idle.lost(), 0);
    }

    /** The same sentence: a demand 1 less than the least power, as much, and 1 more */
    static void flowsOfADemandAroundTheLeastPower() {
        int[] due = {9, 10, 1, 10, 10, 0, 11, 11, 0};
        for (int i = 0; i < due.length; i += 3) {
            Islandgrid grid = made(10, 50);
            grid.addLoad(0, due[i], 1);
            grid.pass(1);
            Check.same("given for " + due[i], grid.given(0), due[i + 1]);
            Check.same("lost for " + due[i], grid.lost(), due[i + 2]);
        }
    }

    /** "As long as they give less than the demand in all, and one of them can give more": a demand just met */
    static void flowsOfADemandJustMet() {
        Islandgrid grid = made(10, 50);
        grid.addStore(0, 50, 20);
        grid.addLoad(0, 50, 1);
        grid.pass(1);
        Check.same("given", grid.given(0), 50);
        sameStore("neither charged nor discharged", grid, 0, 0, 0);
        Check.same("lost", grid.lost(), 0);
        Check.same("served", grid.served(), 50);
        Check.same("grid", grid.grid(), 0);
    }

    /** The same sentence on the tied island: just met, and 1 more, which comes from the main grid */
    static void flowsOfADemandJustMetWithTheGrid() {
        Islandgrid grid = made(10, 50);
        grid.addLoad(0, 50, 1);
        grid.tie();
        grid.pass(1);
        Check.same("just met", grid.grid(), 0);
        grid.addLoad(0, 1, 1);
        grid.pass(1);
        Check.same("1 more", grid.grid(), 1);
        Check.same("given", grid.given(0), 50);
    }

    /** "of several, by the one with the lowest number" in a tick */
    static void flowsOfSeveralThatAreAlike() {
        Islandgrid grid = Scenes.sites(1);
        for (int generator = 0; generator < 6; generator++) {
            grid.start(grid.addGenerator(0, 0, 50, 0, 100));
        }
        grid.addLoad(0, 8, 1);
        grid.pass(1);
        for (int generator = 0; generator < 6; generator++) {
            Check.same("given " + generator, grid.given(generator), generator < 2 ? 2 : 1);
        }
    }

    /** "What is then left of the demand is given by the stores, by rising numbers, each as much as it can" */
    static void flowsOfStoresByRisingNumbers() {
        Islandgrid grid = made(60, 60);
        grid.addStore(0, 50, 20);
        grid.addStore(0, 50, 20);
        grid.addStore(0, 50, 20);
        grid.pass(1);
        grid.stop(0);
        grid.addLoad(0, 21, 1);
        Check.same("21 of 60", grid.pass(1), 1);
        sameStore("as much as it can", grid, 0, 20, 0);
        sameStore("the 1 that is left", grid, 1, 1, 19);
        sameStore("nothing is left", grid, 2, 0, 20);
        Check.same("the next 21, of 39", grid.pass(1), 1);
        sameStore("empty", grid, 0, 0, 0);
        sameStore("its charge", grid, 1, 19, 0);
        sameStore("the 2 that are left", grid, 2, 2, 18);
        Check.same("21 of 18", grid.pass(1), 0);
        sameStore("not used", grid, 2, 0, 18);
    }

    /** The same sentence: a store that is empty gives nothing, one with the charge 1 gives 1 */
    static void flowsOfAnEmptyStore() {
        Islandgrid empty = Scenes.charged(50, 20, 0, 1);
        empty.addLoad(0, 1, 1);
        Check.same("empty", empty.pass(1), 0);
        sameStore("empty", empty, 0, 0, 0);
        Islandgrid last = Scenes.charged(50, 20, 1, 1);
        last.addLoad(0, 1, 1);
        Check.same("the charge 1", last.pass(1), 1);
        sameStore("the charge 1", last, 0, 1, 0);
        Check.same("empty behind that", last.pass(1), 0);
    }

    /** The same sentence: a demand that a store just meets by its rate, and 1 more */
    static void flowsOfAStoreAtItsRate() {
        Islandgrid grid = Scenes.charged(50, 20, 20, 2);
        grid.addLoad(0, 20, 1);
        Check.same("at its rate", grid.pass(1), 1);
        sameStore("at its rate", grid, 0, 20, 20);
        Islandgrid above = Scenes.charged(50, 20, 20, 2);
        above.addLoad(0, 21, 1);
        Check.same("1 above its rate", above.pass(1), 0);
        sameStore("1 above its rate", above, 0, 0, 40);
    }

    /** "what is left of that comes from the main grid": nothing, and 1 */
    static void flowsFromTheMainGrid() {
        Islandgrid grid = Scenes.charged(50, 20, 20, 2);
        grid.addLoad(0, 20, 1);
        grid.tie();
        grid.pass(1);
        Check.same("nothing is left", grid.grid(), 0);
        grid.addLoad(0, 1, 1);
        grid.pass(1);
        Check.same("1 is left", grid.grid(), 1);
        sameStore("it gives its rate", grid, 0, 20, 0);
        grid.pass(1);
        Check.same("all is left", grid.grid(), 21);
        sameStore("it is empty", grid, 0, 0, 0);
    }

    /** "charges the stores, by rising numbers, each by its rate, or by what is missing to its capacity if ... less" */
    static void flowsIntoStoresByRisingNumbers() {
        Islandgrid grid = made(21, 21);
        grid.addStore(0, 39, 20);
        grid.addStore(0, 50, 20);
        grid.pass(1);
        sameStore("by its rate", grid, 0, -20, 20);
        sameStore("the 1 that is left", grid, 1, -1, 1);
        grid.pass(1);
        sameStore("19 are missing to its capacity", grid, 0, -19, 39);
        sameStore("the 2 that are left", grid, 1, -2, 3);
        grid.pass(1);
        sameStore("full", grid, 0, 0, 39);
        sameStore("its rate", grid, 1, -20, 23);
        Check.same("lost", grid.lost(), 1);
    }

    /** The same sentence: 1 less, as much as and 1 more than the rate is missing to the capacity */
    static void flowsIntoAStoreAroundItsRate() {
        sameStore("19 missing", Scenes.charged(39, 20, 20, 2), 0, -19, 39);
        sameStore("20 missing", Scenes.charged(40, 20, 20, 2), 0, -20, 40);
        sameStore("21 missing", Scenes.charged(41, 20, 20, 2), 0, -20, 40);
        sameStore("1 missing", Scenes.charged(41, 20, 20, 3), 0, -1, 41);
        sameStore("0 missing", Scenes.charged(41, 20, 20, 4), 0, 0, 41);
    }

    /** "what is left then goes to the main grid, or is lost in an island that is not tied": nothing, and 1 */
    static void flowsOfWhatIsLeftThen() {
        Islandgrid none = Scenes.charged(50, 20, 20, 1);
        Check.same("nothing is lost", none.lost(), 0);
        Islandgrid one = Scenes.charged(50, 20, 21, 1);
        Check.same("1 is lost", one.lost(), 1);
        Islandgrid tied = made(21, 21);
        tied.addStore(0, 50, 20);
        tied.tie();
        tied.pass(1);
        Check.same("1 goes to the main grid", tied.grid(), -1);
        Check.same("nothing is lost on the tied island", tied.lost(), 0);
        Islandgrid fits = made(20, 20);
        fits.addStore(0, 50, 20);
        fits.tie();
        fits.pass(1);
        Check.same("nothing goes to the main grid", fits.grid(), 0);
    }

    /** Stores of another island neither take nor give. */
    static void flowsOfTheStoresOfTheIslandAlone() {
        Islandgrid grid = Scenes.lines(1);
        grid.start(grid.addGenerator(0, 30, 30, 0, 9999));
        grid.addStore(1, 50, 20);
        grid.addStore(0, 50, 20);
        grid.pass(2);
        sameStore("of another island", grid, 0, 0, 0);
        sameStore("of this island", grid, 1, -20, 40);
        Check.same("lost", grid.lost(), 20);
        grid.stop(0);
        grid.addLoad(1, 1, 1);
        grid.addLoad(0, 5, 1);
        Check.same("lit", grid.pass(1), 1);
        sameStore("of the island without supply", grid, 0, 0, 0);
        sameStore("of the island of the load", grid, 1, 5, 35);
        Check.same("isBalanced", grid.isBalanced(), true);
    }

    /** "Each generator burns as much fuel as it gives." down to 0 */
    static void flowsBurnFuel() {
        Islandgrid grid = Scenes.sites(1);
        grid.start(grid.addGenerator(0, 0, 50, 0, 50));
        grid.start(grid.addGenerator(0, 0, 50, 0, 50));
        grid.addLoad(0, 75, 1);
        grid.pass(1);
        Check.same("given 0", grid.given(0), 38);
        Check.same("given 1", grid.given(1), 37);
        Check.same("fuel 0", grid.fuel(0), 12);
        Check.same("fuel 1", grid.fuel(1), 13);
        grid.addLoad(0, 25, 2);
        grid.setRank(0, 3);
        grid.pass(1);
        Check.same("fuel 0, all is burnt", grid.fuel(0), 0);
        Check.same("fuel 1, all is burnt", grid.fuel(1), 0);
        Check.same("burnt", grid.burnt(), 100);
    }

    // The promises

    /** "Returns the number of lit loads then." none, some and the most */
    static void promise37ReturnsTheNumberOfLitLoads() {
        Check.same("without sites", new Islandgrid().pass(1), 0);
        Check.same("without loads", Scenes.sites(6).pass(12), 0);
        for (int lit = 0; lit <= 10; lit++) {
            Islandgrid grid = Scenes.supply(200);
            for (int load = 0; load < 10; load++) {
                grid.addLoad(0, 20, 1);
            }
            grid.setReserve(200 - 20 * lit);
            Check.same("a bound of " + 20 * lit, grid.pass(1), lit);
        }
    }

    /** "Lets ticks pass." - as many as are told, from the least to the most */
    static void promise37LetsAsManyTicksPass() {
        int time = 0;
        Islandgrid grid = new Islandgrid();
        for (int ticks = 1; ticks <= 12; ticks++) {
            grid.pass(ticks);
            time += ticks;
            Check.same("now behind " + ticks, grid.now(), time);
        }
        Islandgrid burning = made(10, 50);
        burning.pass(12);
        Check.same("burnt in 12 ticks", burning.burnt(), 120);
    }

    /** "if it is not between 1 and 12" */
    static void promise37ThrowsForTicksBeyond1To12() {
        Edges.range("pass", 1, 12, Scenes::full, (g, ticks) -> g.pass(ticks));
        Edges.range("pass on a new grid", 1, 12, Islandgrid::new, (g, ticks) -> g.pass(ticks));
    }

    /** "Returns the time." - no other call lets it pass */
    static void promise38ReturnsTheTime() {
        Islandgrid grid = Scenes.running();
        grid.setDelay(9);
        grid.setReserve(9);
        grid.stop(0);
        grid.startNext(0);
        grid.refuel(0, 9);
        Check.same("behind other calls", grid.now(), 0);
        Edges.throwsOn("a refused pass", Edges.BAD_ARGUMENT, grid, g -> g.pass(13));
        Check.same("behind a refused pass", grid.now(), 0);
        Check.same("behind a tick", tickOf(grid), 1);
    }

    /** "Returns what it gave, 0 ahead of the first tick." */
    static void promise39Returns0AheadOfTheFirstTick() {
        Islandgrid grid = made(10, 50);
        Check.same("one that runs", grid.given(0), 0);
        Check.same("one that is off", Scenes.generators(1).given(0), 0);
        grid.pass(1);
        grid.addGenerator(0, 10, 50, 0, 100);
        grid.start(1);
        Check.same("one that was added behind the latest tick", grid.given(1), 0);
    }

    /** "Returns what a generator gave in the latest tick." - the least and the most; of the last one of a call */
    static void promise39ReturnsWhatItGaveInTheLatestTick() {
        Islandgrid grid = made(100, 200);
        grid.addLoad(0, 200, 1);
        grid.pass(1);
        Check.same("the most", grid.given(0), 200);
        grid.setReserve(1);
        grid.pass(1);
        Check.same("the least power", grid.given(0), 100);
        grid.setReserve(0);
        grid.pass(3);
        Check.same("in the last of three ticks", grid.given(0), 200);
        grid.stop(0);
        Check.same("ahead of the next tick", grid.given(0), 200);
        grid.pass(1);
        Check.same("off", grid.given(0), 0);
    }

    /** "if there is no such generator" */
    static void promise39ThrowsWithoutSuchAGenerator() {
        Edges.numbers("given", 6, Scenes::generators, (g, generator) -> g.given(generator));
    }

    /** "Returns the difference, 0 ahead of the first tick." */
    static void promise40Returns0AheadOfTheFirstTick() {
        Islandgrid grid = made(30, 30);
        grid.addStore(0, 50, 20);
        Check.same("a new one", grid.flow(0), 0);
        grid.pass(1);
        grid.addStore(0, 50, 20);
        Check.same("one that was added behind the latest tick", grid.flow(1), 0);
        Check.same("the other one", grid.flow(0), -20);
    }

    /** "Returns what a store gave in the latest tick, minus what it was charged." - the most of either */
    static void promise40ReturnsAtMostTheRate() {
        Islandgrid grid = made(100, 100);
        grid.addStore(0, 999, 99);
        grid.pass(1);
        Check.same("charged by the greatest rate", grid.flow(0), -99);
        grid.stop(0);
        grid.pass(1);
        Check.same("neither", grid.flow(0), 0);
        grid.addLoad(0, 99, 1);
        grid.pass(1);
        Check.same("given by the greatest rate", grid.flow(0), 99);
        grid.pass(1);
        Check.same("empty", grid.flow(0), 0);
    }

    /** "if there is no such store" */
    static void promise40ThrowsWithoutSuchAStore() {
        Edges.numbers("flow", 4, Scenes::stores, (g, store) -> g.flow(store));
    }

    /** "Returns the difference, 0 ahead of the first tick." - without sites too */
    static void promise41Returns0AheadOfTheFirstTick() {
        Check.same("without sites", new Islandgrid().grid(), 0);
        Islandgrid grid = Scenes.loads(10);
        grid.tie();
        Check.same("tied, with loads", grid.grid(), 0);
    }

    /** "Returns what came from the main grid in the latest tick, minus what went to it." - the most of either */
    static void promise41ReturnsTheMostOfEither() {
        Islandgrid from = Scenes.sites(1);
        for (int load = 0; load < 10; load++) {
            from.addLoad(0, 200, 1);
        }
        from.tie();
        from.pass(12);
        Check.same("from the main grid", from.grid(), 2000);
        Islandgrid to = Scenes.sites(1);
        for (int generator = 0; generator < 6; generator++) {
            to.start(to.addGenerator(0, 100, 100, 0, 9999));
        }
        to.tie();
        to.pass(12);
        Check.same("to the main grid", to.grid(), -600);
    }

    /** The same sentence: of the latest tick alone, 0 behind a tick without a tie */
    static void promise41IsOfTheLatestTick() {
        Islandgrid grid = Scenes.loads(1);
        grid.tie();
        grid.pass(1);
        Check.same("tied", grid.grid(), 20);
        grid.untie();
        Check.same("untied, ahead of the next tick", grid.grid(), 20);
        grid.pass(1);
        Check.same("behind it", grid.grid(), 0);
    }

    /** The same sentence: other islands, which give or take, change nothing of it. */
    static void promise41IsOfTheTiedIslandAlone() {
        Islandgrid grid = Scenes.sites(3);
        grid.addLoad(0, 20, 1);
        grid.start(grid.addGenerator(1, 30, 30, 0, 9999));
        grid.addStore(2, 50, 20);
        grid.addLoad(1, 10, 1);
        grid.tie();
        grid.pass(1);
        Check.same("from the main grid, lost elsewhere", grid.grid(), 20);
        Check.same("lost", grid.lost(), 20);
        grid.addStore(1, 50, 20);
        grid.pass(2);
        Check.same("from the main grid, stored elsewhere", grid.grid(), 20);
        grid.stop(0);
        grid.pass(1);
        Check.same("from the main grid, given by a store elsewhere", grid.grid(), 20);
        Check.same("given by that store", grid.flow(1), 10);
        Check.same("isBalanced", grid.isBalanced(), true);
    }

    /** "Returns the sum of all fuel that was burnt." - 0 at first, and not of fuel that was not burnt */
    static void promise42ReturnsTheSum() {
        Check.same("of a new grid", new Islandgrid().burnt(), 0);
        Islandgrid grid = Scenes.generators(6);
        grid.start(0);
        grid.pass(1);
        Check.same("none runs as yet", grid.burnt(), 0);
        grid.pass(1);
        Check.same("one runs", grid.burnt(), 10);
        grid.stop(0);
        grid.pass(12);
        Check.same("stopped", grid.burnt(), 10);
    }

    /** "Returns the sum of all demands in all ticks." - 0 at first, and of lit loads alone */
    static void promise43ReturnsTheSum() {
        Check.same("of a new grid", new Islandgrid().served(), 0);
        Islandgrid grid = Scenes.loads(10);
        Check.same("ahead of the first tick", grid.served(), 0);
        grid.pass(1);
        Check.same("of dark loads", grid.served(), 0);
        grid.tie();
        grid.pass(2);
        Check.same("while they wait", grid.served(), 0);
        grid.pass(1);
        Check.same("of lit loads", grid.served(), 200);
        grid.pass(12);
        Check.same("of 12 ticks more", grid.served(), 2600);
    }

    /** "Returns the sum of all that was lost." - 0 at first, and not what stores or the main grid take */
    static void promise44ReturnsTheSum() {
        Check.same("of a new grid", new Islandgrid().lost(), 0);
        Islandgrid grid = made(20, 20);
        grid.addStore(0, 20, 20);
        grid.pass(1);
        Check.same("the store takes all", grid.lost(), 0);
        grid.tie();
        grid.pass(1);
        Check.same("the main grid takes all", grid.lost(), 0);
        grid.untie();
        grid.pass(1);
        Check.same("nothing takes it", grid.lost(), 20);
        grid.pass(12);
        Check.same("12 ticks more", grid.lost(), 260);
    }

    /** "Returns true if the fuel that was burnt, and all that came from the main grid, is ..." - each part alone */
    static void promise45TellsTrueOfEachPart() {
        Check.same("of a new grid", new Islandgrid().isBalanced(), true);
        Islandgrid lost = made(20, 20);
        lost.pass(1);
        Check.same("burnt is lost", lost.lost() == 20 && lost.isBalanced(), true);
        Islandgrid stored = Scenes.charged(20, 20, 20, 1);
        Check.same("burnt is in the stores", stored.charge(0) == 20 && stored.isBalanced(), true);
        stored.addLoad(0, 20, 1);
        stored.pass(1);
        Check.same("it is served from the stores", stored.served() == 20 && stored.isBalanced(), true);
        Islandgrid to = made(20, 20);
        to.tie();
        to.pass(1);
        Check.same("burnt goes to the main grid", to.grid() == -20 && to.isBalanced(), true);
        to.untie();
        to.pass(1);
        Check.same("it went there in a tick ahead", to.grid() == 0 && to.isBalanced(), true);
        Islandgrid from = Scenes.loads(1);
        from.tie();
        from.pass(1);
        Check.same("served from the main grid", from.grid() == 20 && from.isBalanced(), true);
        from.untie();
        from.pass(1);
        Check.same("it came from there in a tick ahead", from.grid() == 0 && from.isBalanced(), true);
    }

    /** The same sentence over several ticks of each kind, and with several stores */
    static void promise45TellsTrueOfSums() {
        Islandgrid stores = made(100, 100);
        for (int store = 0; store < 4; store++) {
            stores.addStore(0, 30 + store, 10 + store);
        }
        stores.pass(1);
        Check.same("4 stores", stores.isBalanced(), true);
        stores.pass(3);
        Check.same("4 full stores", stores.isBalanced(), true);
        Islandgrid from = Scenes.loads(2);
        from.tie();
        from.pass(3);
        from.setRank(0, 1);
        from.addLoad(0, 7, 1);
        from.pass(2);
        Check.same("from the main grid in 5 ticks", from.isBalanced(), true);
        Islandgrid to = made(20, 20);
        to.tie();
        to.pass(3);
        to.addLoad(0, 7, 1);
        to.pass(2);
        Check.same("to the main grid in 5 ticks", to.isBalanced(), true);
    }

    /** "Returns their number divided by that of all loads, both converted to float." from none to all of ten */
    static void promise46ReturnsTheQuotient() {
        for (int all = 1; all <= 10; all++) {
            for (int lit = 0; lit <= all; lit++) {
                Islandgrid grid = Scenes.supply(200);
                for (int load = 0; load < all; load++) {
                    grid.addLoad(0, 20, 1);
                }
                grid.setReserve(200 - 20 * lit);
                grid.pass(1);
                Check.same("of " + lit + " of " + all, grid.litShare(), (float) lit / (float) all);
            }
        }
    }

    /** "if there is no load" */
    static void promise46ThrowsWithoutALoad() {
        Check.refused("of a new grid", Edges.NO_ELEMENT, Islandgrid::new, g -> Float.floatToIntBits(g.litShare()));
        Check.refused("with sites", Edges.NO_ELEMENT, () -> Scenes.sites(6),
                g -> Float.floatToIntBits(g.litShare()));
        Islandgrid grid = Scenes.sites(1);
        grid.addLoad(0, 1, 9);
        Check.same("with a load", grid.litShare(), 1.0f);
    }
}
