/** The edges that "Loads", "Shedding" and the promises 24 to 29 name: one test for each sentence. */
public final class EdgesOfLoadsTest {
    public static void main(String[] args) {
        Check.runAll(EdgesOfLoadsTest.class);
    }

    private static Islandgrid one() {
        return Scenes.sites(1);
    }

    private static Islandgrid oneLoad() {
        return Scenes.loads(1);
    }

    /** One site with a supply, and loads of some powers, all of the rank 5. */
    private static Islandgrid supplied(int supply, int... powers) {
        Islandgrid grid = Scenes.supply(supply);
        for (int power : powers) {
            grid.addLoad(0, power, 5);
        }
        return grid;
    }

    private static void lit(String what, Islandgrid grid, boolean... due) {
        for (int load = 0; load < due.length; load++) {
            Check.same(what + ", isLit " + load, grid.isLit(load), due[load]);
        }
    }

    // Loads

    /** "At most 10 loads have the numbers 0 to n - 1." */
    static void terms10LoadsHaveTheNumbers0To9() {
        for (int count = 0; count <= 10; count++) {
            Islandgrid grid = Scenes.loads(count);
            for (int load = 0; load < count; load++) {
                Check.same("load " + load + " of " + count, grid.isLit(load), true);
            }
            int next = count;
            Edges.throwsOn("the one behind the last of " + count, Edges.NO_INDEX, grid, g -> g.isLit(next) ? 1 : 0);
        }
    }

    /** "it is lit, as at first, or dark" - even if there is no supply, until a tick passes */
    static void termsALoadIsLitAtFirst() {
        Islandgrid grid = Scenes.loads(10);
        Check.same("litShare", grid.litShare(), 1.0f);
        Check.same("demand", grid.demand(0), 200);
        grid.pass(1);
        Check.same("litShare behind a tick", grid.litShare(), 0.0f);
    }

    /** "a rank from 1, the highest one, to 9" - the rank 1 is taken first, the rank 9 last */
    static void termsTheRank1IsTheHighestOne() {
        Islandgrid grid = Scenes.supply(10);
        for (int rank = 9; rank >= 1; rank--) {
            grid.addLoad(0, 10, rank);
        }
        grid.pass(1);
        lit("the rank 1 alone", grid, false, false, false, false, false, false, false, false, true);
        Check.same("places behind the barrier, rank 9", grid.behind(0), 7);
        Check.same("places behind the barrier, rank 2", grid.behind(7), 0);
    }

    // Shedding

    /** "taken by rising ranks, those of the same rank by rising numbers" */
    static void sheddingTakesTheSameRankByRisingNumbers() {
        Islandgrid grid = supplied(20, 10, 10, 10);
        grid.pass(1);
        lit("by numbers", grid, true, true, false);
        Islandgrid other = supplied(20, 10, 10, 10);
        other.setRank(2, 4);
        other.pass(1);
        lit("the last one has a higher rank", other, true, false, true);
    }

    /** "the sum of its power and of theirs ... is not greater than the bound": at the bound, and 1 above it */
    static void sheddingKeepsALoadAtTheBound() {
        Islandgrid one = supplied(50, 50);
        Check.same("one at the bound is kept", one.isKept(0), true);
        Check.same("one at the bound is lit", one.pass(1), 1);
        Islandgrid above = supplied(50, 51);
        Check.same("one above it is not kept", above.isKept(0), false);
        Check.same("one above it is dark", above.pass(1), 0);
        Islandgrid two = supplied(50, 30, 20);
        Check.same("two at the bound are lit", two.pass(1), 2);
        Islandgrid twoAbove = supplied(50, 30, 21);
        Check.same("two above it", twoAbove.pass(1), 1);
        lit("two above it", twoAbove, true, false);
    }

    /** The same sentence with the least and the greatest load */
    static void sheddingKeepsTheLeastAndTheGreatestLoad() {
        Check.same("1 of 1", supplied(1, 1).pass(1), 1);
        Check.same("2 of 1", supplied(1, 2).pass(1), 0);
        Check.same("200 of 200", supplied(200, 200).pass(1), 1);
        Check.same("200 of 199", supplied(199, 200).pass(1), 0);
    }

    /** The same sentence with a bound that is 0: no load is kept, not even one of the power 1 */
    static void sheddingKeepsNoneWithTheBound0() {
        Islandgrid grid = one();
        grid.addLoad(0, 1, 1);
        Check.same("bound without supply", grid.bound(0), 0);
        Check.same("isKept", grid.isKept(0), false);
        Check.same("pass", grid.pass(1), 0);
        Islandgrid reserved = supplied(10, 1);
        reserved.setReserve(10);
        Check.same("bound by the reserve", reserved.bound(0), 0);
        Check.same("pass by the reserve", reserved.pass(1), 0);
        Islandgrid negative = supplied(10, 1);
        negative.setReserve(999);
        Check.same("pass by the greatest reserve", negative.pass(1), 0);
    }

    /** "A load is kept if all loads ahead of it are kept": one that would fit by itself is not */
    static void sheddingKeepsNoneBehindABarrier() {
        Islandgrid grid = supplied(50, 51, 1);
        Check.same("isKept of the small one", grid.isKept(1), false);
        Check.same("pass", grid.pass(1), 0);
        grid.setRank(1, 4);
        Check.same("isKept ahead of the barrier", grid.isKept(1), true);
    }

    /** "dark ones included": a dark load ahead takes its part of the bound while it waits */
    static void sheddingIncludesDarkLoads() {
        Islandgrid grid = supplied(50, 30, 20, 1);
        grid.setReserve(50);
        grid.pass(1);
        grid.setReserve(0);
        lit("all dark", grid, false, false, false);
        Check.same("the second one is kept", grid.isKept(1), true);
        Check.same("the third one is not kept", grid.isKept(2), false);
        grid.pass(1);
        Check.same("wait of the third one", grid.waits(2), 2);
    }

    /** The same words: a new load, which is lit, has no room beside dark ones */
    static void sheddingIncludesDarkLoadsAheadOfLitOnes() {
        Islandgrid grid = supplied(50, 50);
        grid.setReserve(1);
        grid.pass(1);
        grid.setReserve(0);
        grid.addLoad(0, 1, 5);
        Check.same("demand is of the new one", grid.demand(0), 1);
        grid.pass(1);
        lit("both are dark", grid, false, false);
    }

    /** "A load that is not kept becomes dark, or stays so, and its wait is the delay again" */
    static void sheddingSetsTheWaitAgain() {
        Islandgrid grid = supplied(50, 30);
        grid.setReserve(30);
        grid.pass(1);
        Check.same("it becomes dark", grid.waits(0), 2);
        grid.pass(12);
        Check.same("it stays dark", grid.waits(0), 2);
        grid.setReserve(0);
        grid.pass(2);
        Check.same("it has waited", grid.waits(0), 0);
        grid.setReserve(30);
        grid.pass(1);
        Check.same("in the tick in which it would become lit", grid.waits(0), 2);
        Check.same("it is dark", grid.isLit(0), false);
    }

    /** The same sentence: the delay is that of the tick, for one that stays dark too */
    static void sheddingTakesTheDelayOfTheTick() {
        Islandgrid grid = oneLoad();
        grid.pass(1);
        grid.setDelay(9);
        Check.same("ahead of the tick", grid.waits(0), 2);
        grid.pass(1);
        Check.same("behind the tick", grid.waits(0), 9);
        grid.setDelay(0);
        Check.same("ahead of the next tick", grid.waits(0), 9);
        grid.pass(1);
        Check.same("behind the next tick", grid.waits(0), 0);
    }

    /** "from 0 to 9 and 2 at first" */
    static void sheddingWaits2TicksAtFirst() {
        Islandgrid grid = supplied(50, 30);
        grid.setReserve(30);
        grid.pass(1);
        grid.setReserve(0);
        grid.pass(1);
        Check.same("behind 1 tick", grid.waits(0), 1);
        grid.pass(1);
        Check.same("behind 2 ticks", grid.waits(0), 0);
        lit("behind 2 ticks", grid, false);
        grid.pass(1);
        lit("behind 3 ticks", grid, true);
    }

    /** "A dark load that is kept becomes lit if its wait is 0": with the delay 0, in the very next tick */
    static void sheddingGivesBackAtOnceWithTheDelay0() {
        Islandgrid grid = supplied(50, 30);
        grid.setDelay(0);
        grid.setReserve(30);
        grid.pass(1);
        Check.same("its wait", grid.waits(0), 0);
        grid.setReserve(0);
        Check.same("it becomes lit", grid.pass(1), 1);
        Check.same("its demand counts in that tick", grid.given(0), 30);
    }

    /** "otherwise it stays dark in this tick, and its wait is 1 less then": from the greatest delay down to 0 */
    static void sheddingCountsTheWaitDown() {
        Islandgrid grid = supplied(50, 30);
        grid.setDelay(9);
        grid.setReserve(30);
        grid.pass(1);
        grid.setReserve(0);
        for (int wait = 9; wait > 0; wait--) {
            Check.same("wait", grid.waits(0), wait);
            Check.same("it stays dark", grid.pass(1), 0);
            Check.same("it takes no power", grid.given(0), 0);
        }
        Check.same("wait at the end", grid.waits(0), 0);
        Check.same("it becomes lit", grid.pass(1), 1);
    }

    /** "a tied island has no bound": all its loads are kept, but a dark one waits as elsewhere */
    static void sheddingKeepsAllOnTheTiedIsland() {
        Islandgrid grid = one();
        for (int load = 0; load < 10; load++) {
            grid.addLoad(0, 200, 9);
        }
        grid.setReserve(999);
        grid.tie();
        Check.same("all are lit", grid.pass(12), 10);
        grid.untie();
        Check.same("all are dark", grid.pass(1), 0);
        grid.tie();
        Check.same("they wait 2 ticks", grid.pass(2), 0);
        Check.same("they are lit again", grid.pass(1), 10);
    }

    // Promise 24

    /** "Returns the number of the load." */
    static void promise24ReturnsTheNumbers0To9() {
        Islandgrid grid = one();
        for (int load = 0; load < 10; load++) {
            Check.same("addLoad", grid.addLoad(0, 5, 5), load);
        }
    }

    /** "if there is no such site" */
    static void promise24ThrowsWithoutSuchASite() {
        Edges.numbers("addLoad", 6, Scenes::sites, (g, site) -> g.addLoad(site, 5, 5));
    }

    /** "if the power is not between 1 and 200" */
    static void promise24ThrowsForAPowerBeyond1To200() {
        Edges.range("power", 1, 200, EdgesOfLoadsTest::one, (g, power) -> g.addLoad(0, power, 5));
    }

    /** "or the rank not between 1 and 9" */
    static void promise24ThrowsForARankBeyond1To9() {
        Edges.range("rank", 1, 9, EdgesOfLoadsTest::one, (g, rank) -> g.addLoad(0, 5, rank));
    }

    /** "if there are 10 loads" */
    static void promise24ThrowsWith10Loads() {
        Check.same("with 9", Scenes.loads(9).addLoad(0, 5, 5), 9);
        Check.refused("with 10", Edges.BAD_STATE, () -> Scenes.loads(10), g -> g.addLoad(0, 5, 5));
    }

    /** The least and the greatest power are what the load takes then. */
    static void promise24TakesTheLeastAndTheGreatestPower() {
        Islandgrid grid = one();
        grid.addLoad(0, 1, 1);
        Check.same("the least power", grid.demand(0), 1);
        grid.addLoad(0, 200, 9);
        Check.same("the greatest power beside it", grid.demand(0), 201);
    }

    // Promise 25

    /** "Returns the rank before." from the least to the greatest */
    static void promise25ReturnsTheRankBefore() {
        Islandgrid grid = oneLoad();
        Check.same("as added", grid.setRank(0, 1), 3);
        for (int rank = 1; rank < 9; rank++) {
            Check.same("setRank", grid.setRank(0, rank + 1), rank);
        }
        Edges.throwsOn("a refused one", Edges.BAD_ARGUMENT, grid, g -> g.setRank(0, 10));
        Check.same("behind a refused one", grid.setRank(0, 9), 9);
    }

    /** "if there is no such load" */
    static void promise25ThrowsWithoutSuchALoad() {
        Edges.numbers("setRank", 10, Scenes::loads, (g, load) -> g.setRank(load, 5));
    }

    /** "if it is not between 1 and 9" */
    static void promise25ThrowsForARankBeyond1To9() {
        Edges.range("rank", 1, 9, EdgesOfLoadsTest::oneLoad, (g, rank) -> g.setRank(0, rank));
    }

    // Promises 26 and 27

    /** "Returns true if it is." - in the tick in which it is shed, and in that in which it is given back */
    static void promise26TellsItFromTheTickOn() {
        Islandgrid grid = supplied(50, 50);
        grid.setReserve(1);
        lit("ahead of the tick", grid, true);
        grid.pass(1);
        lit("behind the tick", grid, false);
        grid.setDelay(0);
        grid.pass(1);
        grid.setReserve(0);
        lit("ahead of the tick in which it is kept", grid, false);
        grid.pass(1);
        lit("behind the tick in which it is kept", grid, true);
    }

    /** "if there is no such load" */
    static void promise26ThrowsWithoutSuchALoad() {
        Edges.numbers("isLit", 10, Scenes::loads, (g, load) -> g.isLit(load) ? 1 : 0);
    }

    /** "Returns the wait." the least and the greatest */
    static void promise27ReturnsTheWait() {
        for (int delay = 0; delay <= 9; delay++) {
            Islandgrid grid = oneLoad();
            grid.setDelay(delay);
            grid.pass(1);
            Check.same("waits", grid.waits(0), delay);
        }
    }

    /** "if there is no such load" */
    static void promise27ThrowsWithoutSuchALoad() {
        Edges.numbers("waits", 10, Scenes::loads, (g, load) -> g.waits(load));
    }

    /** "if it is lit": at first, and behind its wait */
    static void promise27ThrowsForALitLoad() {
        Check.refused("at first", Edges.NO_ELEMENT, EdgesOfLoadsTest::oneLoad, g -> g.waits(0));
        Check.refused("behind its wait", Edges.NO_ELEMENT, () -> {
            Islandgrid grid = supplied(50, 30);
            grid.setReserve(30);
            grid.pass(1);
            grid.setReserve(0);
            grid.pass(3);
            return grid;
        }, g -> g.waits(0));
    }

    // Promises 28 and 29

    /** "Returns the reserve before." - 0 at first, the least and the greatest */
    static void promise28ReturnsTheReserveBefore() {
        Islandgrid grid = new Islandgrid();
        Check.same("at first", grid.setReserve(999), 0);
        Edges.throwsOn("a refused one", Edges.BAD_ARGUMENT, grid, g -> g.setReserve(1000));
        Check.same("behind a refused one", grid.setReserve(0), 999);
        Check.same("behind 0", grid.setReserve(1), 0);
    }

    /** "if it is not between 0 and 999" */
    static void promise28ThrowsForAReserveBeyond0To999() {
        Edges.range("reserve", 0, 999, Islandgrid::new, (g, reserve) -> g.setReserve(reserve));
    }

    /** "Returns the delay before." - 2 at first, the least and the greatest */
    static void promise29ReturnsTheDelayBefore() {
        Islandgrid grid = new Islandgrid();
        Check.same("at first", grid.setDelay(9), 2);
        Edges.throwsOn("a refused one", Edges.BAD_ARGUMENT, grid, g -> g.setDelay(10));
        Check.same("behind a refused one", grid.setDelay(0), 9);
        Check.same("behind 0", grid.setDelay(1), 0);
    }

    /** "if it is not between 0 and 9" */
    static void promise29ThrowsForADelayBeyond0To9() {
        Edges.range("delay", 0, 9, Islandgrid::new, (g, delay) -> g.setDelay(delay));
    }
}
