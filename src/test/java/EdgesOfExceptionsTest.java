import java.util.function.Supplier;
import java.util.function.ToLongFunction;

/**
 * The sentences under "Exceptions": "A method that throws an exception changes nothing. If several exceptions
 * apply, the one that is listed first is thrown." Here are all exceptions that can apply at once.
 */
public final class EdgesOfExceptionsTest {
    public static void main(String[] args) {
        Check.runAll(EdgesOfExceptionsTest.class);
    }

    private static final int LEAST = Integer.MIN_VALUE;
    private static final int MOST = Integer.MAX_VALUE;

    private static void full(String what, Class<?> due, ToLongFunction<Islandgrid> call) {
        Check.refused(what, due, Scenes::full, call);
    }

    static void setPhaseTheSiteAheadOfThePhase() {
        full("(6, 360)", Edges.NO_INDEX, g -> g.setPhase(6, 360));
        full("(-1, -1)", Edges.NO_INDEX, g -> g.setPhase(-1, -1));
        full("(least, most)", Edges.NO_INDEX, g -> g.setPhase(LEAST, MOST));
    }

    static void addLineTheSiteAheadOfTheSameOne() {
        Check.refused("(6, 6)", Edges.NO_INDEX, () -> Scenes.sites(6), g -> g.addLine(6, 6));
        Check.refused("(-1, -1)", Edges.NO_INDEX, () -> Scenes.sites(6), g -> g.addLine(-1, -1));
        Check.refused("(0, 0) without sites", Edges.NO_INDEX, Islandgrid::new, g -> g.addLine(0, 0));
    }

    static void addLineTheSiteAheadOf8Lines() {
        full("(0, 6)", Edges.NO_INDEX, g -> g.addLine(0, 6));
        full("(6, 0)", Edges.NO_INDEX, g -> g.addLine(6, 0));
        full("(-1, 0)", Edges.NO_INDEX, g -> g.addLine(-1, 0));
    }

    static void addLineTheSameSiteAheadOf8Lines() {
        full("(3, 3)", Edges.BAD_ARGUMENT, g -> g.addLine(3, 3));
    }

    static void addLineTheSiteAheadOfAll() {
        full("(6, 6)", Edges.NO_INDEX, g -> g.addLine(6, 6));
    }

    /** A closed line is within one island; that its sites have other phases does not count. */
    static void closeTheClosedLineAheadOfThePhases() {
        Check.refused("close", Edges.BAD_STATE, () -> {
            Islandgrid grid = Scenes.lines(1);
            grid.close(0);
            grid.setPhase(0, 0);
            grid.setPhase(1, 180);
            return grid;
        }, g -> g.close(0));
    }

    /** The phase that is told for the site does not fit, but that of the tied island is 0. */
    static void tieTheTiedGridAheadOfThePhase() {
        Check.refused("tie", Edges.BAD_STATE, () -> {
            Islandgrid grid = Scenes.sites(1);
            grid.tie();
            grid.setPhase(0, 180);
            return grid;
        }, g -> g.tie());
    }

    static void addGeneratorTheSiteAheadOfTheValues() {
        Supplier<Islandgrid> scene = () -> Scenes.sites(2);
        Check.refused("least power", Edges.NO_INDEX, scene, g -> g.addGenerator(2, -1, 10, 0, 10));
        Check.refused("greatest power", Edges.NO_INDEX, scene, g -> g.addGenerator(2, 0, 201, 0, 10));
        Check.refused("greatest less than least", Edges.NO_INDEX, scene, g -> g.addGenerator(-1, 9, 8, 0, 10));
        Check.refused("warm-up", Edges.NO_INDEX, scene, g -> g.addGenerator(2, 0, 10, 10, 10));
        Check.refused("fuel", Edges.NO_INDEX, scene, g -> g.addGenerator(-1, 0, 10, 0, 10000));
        Check.refused("all", Edges.NO_INDEX, scene, g -> g.addGenerator(LEAST, MOST, LEAST, MOST, LEAST));
    }

    static void addGeneratorTheSiteAheadOf6Generators() {
        full("a site above", Edges.NO_INDEX, g -> g.addGenerator(6, 1, 2, 3, 4));
        full("a site below", Edges.NO_INDEX, g -> g.addGenerator(-1, 1, 2, 3, 4));
        full("a site above, wrong values", Edges.NO_INDEX, g -> g.addGenerator(6, -1, -1, -1, -1));
    }

    static void addGeneratorTheValuesAheadOf6Generators() {
        full("least power below", Edges.BAD_ARGUMENT, g -> g.addGenerator(0, -1, 10, 0, 10));
        full("least power above", Edges.BAD_ARGUMENT, g -> g.addGenerator(0, 101, 200, 0, 10));
        full("greatest power below", Edges.BAD_ARGUMENT, g -> g.addGenerator(0, 0, 0, 0, 10));
        full("greatest power above", Edges.BAD_ARGUMENT, g -> g.addGenerator(0, 0, 201, 0, 10));
        full("greatest less than least", Edges.BAD_ARGUMENT, g -> g.addGenerator(0, 9, 8, 0, 10));
        full("warm-up below", Edges.BAD_ARGUMENT, g -> g.addGenerator(0, 0, 10, -1, 10));
        full("warm-up above", Edges.BAD_ARGUMENT, g -> g.addGenerator(0, 0, 10, 10, 10));
        full("fuel below", Edges.BAD_ARGUMENT, g -> g.addGenerator(0, 0, 10, 0, -1));
        full("fuel above", Edges.BAD_ARGUMENT, g -> g.addGenerator(0, 0, 10, 0, 10000));
    }

    static void startOneThatIsNotOffAheadOfItsFuel() {
        Check.refused("start", Edges.BAD_STATE, Scenes::shortOfFuel, g -> g.start(0));
    }

    static void refuelTheGeneratorAheadOfTheFuel() {
        full("(6, 0)", Edges.NO_INDEX, g -> g.refuel(6, 0));
        full("(-1, 10000)", Edges.NO_INDEX, g -> g.refuel(-1, 10000));
    }

    private static Islandgrid fullOfFuel() {
        Islandgrid grid = Scenes.generator(10, 50, 0, 9999);
        for (int time = 0; time < 9; time++) {
            grid.refuel(0, 9999);
        }
        grid.refuel(0, 9);
        return grid;
    }

    static void refuelTheFuelAheadOfMoreThan99999() {
        Supplier<Islandgrid> scene = EdgesOfExceptionsTest::fullOfFuel;
        Check.refused("10000", Edges.BAD_ARGUMENT, scene, g -> g.refuel(0, 10000));
        Check.refused("the greatest int", Edges.BAD_ARGUMENT, scene, g -> g.refuel(0, MOST));
        Check.refused("0", Edges.BAD_ARGUMENT, scene, g -> g.refuel(0, 0));
        Check.refused("1", Edges.BAD_STATE, scene, g -> g.refuel(0, 1));
    }

    static void addStoreTheSiteAheadOfTheValues() {
        Supplier<Islandgrid> scene = () -> Scenes.sites(2);
        Check.refused("capacity", Edges.NO_INDEX, scene, g -> g.addStore(2, 0, 5));
        Check.refused("rate", Edges.NO_INDEX, scene, g -> g.addStore(-1, 5, 100));
        Check.refused("both", Edges.NO_INDEX, scene, g -> g.addStore(MOST, MOST, MOST));
    }

    static void addStoreTheSiteAheadOf4Stores() {
        full("a site above", Edges.NO_INDEX, g -> g.addStore(6, 5, 5));
        full("a site below, wrong values", Edges.NO_INDEX, g -> g.addStore(-1, 0, 0));
    }

    static void addStoreTheValuesAheadOf4Stores() {
        full("capacity below", Edges.BAD_ARGUMENT, g -> g.addStore(0, 0, 5));
        full("capacity above", Edges.BAD_ARGUMENT, g -> g.addStore(0, 1000, 5));
        full("rate below", Edges.BAD_ARGUMENT, g -> g.addStore(0, 5, 0));
        full("rate above", Edges.BAD_ARGUMENT, g -> g.addStore(0, 5, 100));
    }

    static void addLoadTheSiteAheadOfTheValues() {
        Supplier<Islandgrid> scene = () -> Scenes.sites(2);
        Check.refused("power", Edges.NO_INDEX, scene, g -> g.addLoad(2, 0, 5));
        Check.refused("rank", Edges.NO_INDEX, scene, g -> g.addLoad(-1, 5, 10));
        Check.refused("both", Edges.NO_INDEX, scene, g -> g.addLoad(LEAST, LEAST, LEAST));
    }

    static void addLoadTheSiteAheadOf10Loads() {
        full("a site above", Edges.NO_INDEX, g -> g.addLoad(6, 5, 5));
        full("a site below, wrong values", Edges.NO_INDEX, g -> g.addLoad(-1, 0, 0));
    }

    static void addLoadTheValuesAheadOf10Loads() {
        full("power below", Edges.BAD_ARGUMENT, g -> g.addLoad(0, 0, 5));
        full("power above", Edges.BAD_ARGUMENT, g -> g.addLoad(0, 201, 5));
        full("rank below", Edges.BAD_ARGUMENT, g -> g.addLoad(0, 5, 0));
        full("rank above", Edges.BAD_ARGUMENT, g -> g.addLoad(0, 5, 10));
    }

    static void setRankTheLoadAheadOfTheRank() {
        full("(10, 0)", Edges.NO_INDEX, g -> g.setRank(10, 0));
        full("(-1, 10)", Edges.NO_INDEX, g -> g.setRank(-1, 10));
    }

    /** Two sites with a generator at each; only that at the site 0 runs. */
    private static Islandgrid two() {
        Islandgrid grid = Scenes.sites(2);
        grid.start(grid.addGenerator(0, 10, 50, 0, 100));
        grid.addGenerator(1, 10, 50, 0, 100);
        return grid;
    }

    private static void share(Class<?> due, int site, int demand, int generator) {
        String what = "(" + site + ", " + demand + ", " + generator + ")";
        Check.refused("share" + what, due, EdgesOfExceptionsTest::two, g -> g.share(site, demand, generator));
        Check.refused("shareBySteps" + what, due, EdgesOfExceptionsTest::two,
                g -> g.shareBySteps(site, demand, generator));
    }

    static void shareTheSiteAheadOfTheDemand() {
        share(Edges.NO_INDEX, 2, -1, 0);
        share(Edges.NO_INDEX, -1, 1201, 0);
    }

    static void shareTheGeneratorAheadOfTheDemand() {
        share(Edges.NO_INDEX, 0, -1, 2);
        share(Edges.NO_INDEX, 0, 1201, -1);
    }

    static void shareTheSiteAheadOfWhatDoesNotRun() {
        share(Edges.NO_INDEX, 2, 50, 1);
        share(Edges.NO_INDEX, 2, 1201, 1);
    }

    static void shareTheDemandAheadOfWhatDoesNotRun() {
        share(Edges.BAD_ARGUMENT, 1, -1, 1);
        share(Edges.BAD_ARGUMENT, 1, 1201, 1);
        share(Edges.BAD_ARGUMENT, 1, 1201, 0);
        share(Edges.NO_ELEMENT, 1, 1200, 1);
    }

    /** "A method that throws an exception changes nothing.": all of them in a row, on a grid without sites */
    static void allRefusedOnANewGridChangeNothing() {
        Islandgrid grid = new Islandgrid();
        refuseNumbers(grid, 0);
        Edges.throwsOn("tie", Edges.NO_ELEMENT, grid, g -> g.tie());
        Edges.throwsOn("untie", Edges.BAD_STATE, grid, g -> g.untie());
        Edges.throwsOn("setReserve", Edges.BAD_ARGUMENT, grid, g -> g.setReserve(1000));
        Edges.throwsOn("setDelay", Edges.BAD_ARGUMENT, grid, g -> g.setDelay(10));
        Edges.throwsOn("pass", Edges.BAD_ARGUMENT, grid, g -> g.pass(13));
        Edges.throwsOn("litShare", Edges.NO_ELEMENT, grid, g -> (long) g.litShare());
        Check.samePicture("all calls that are refused", grid, new Islandgrid());
    }

    /** The same sentence on a grid that is full */
    static void allRefusedOnAFullGridChangeNothing() {
        Islandgrid grid = Scenes.full();
        refuseNumbers(grid, 10);
        refuseValues(grid);
        refuseStates(grid);
        Check.samePicture("all calls that are refused", grid, Scenes.full());
    }

    /** Each call that takes a number, with one that no thing has. */
    private static void refuseNumbers(Islandgrid grid, int n) {
        Class<?> due = Edges.NO_INDEX;
        Edges.throwsOn("setPhase", due, grid, g -> g.setPhase(n, 5));
        Edges.throwsOn("addLine", due, grid, g -> g.addLine(n, 1));
        Edges.throwsOn("close", due, grid, g -> g.close(n));
        Edges.throwsOn("open", due, grid, g -> g.open(n));
        Edges.throwsOn("island", due, grid, g -> g.island(n));
        Edges.throwsOn("islandByRounds", due, grid, g -> g.islandByRounds(n));
        Edges.throwsOn("phase", due, grid, g -> g.phase(n));
        Edges.throwsOn("gap", due, grid, g -> g.gap(n));
        Edges.throwsOn("addGenerator", due, grid, g -> g.addGenerator(n, 1, 2, 3, 4));
        Edges.throwsOn("start", due, grid, g -> g.start(n));
        Edges.throwsOn("stop", due, grid, g -> g.stop(n));
        Edges.throwsOn("startNext", due, grid, g -> g.startNext(n));
        Edges.throwsOn("refuel", due, grid, g -> g.refuel(n, 5));
        Edges.throwsOn("state", due, grid, g -> g.state(n));
        Edges.throwsOn("fuel", due, grid, g -> g.fuel(n));
        Edges.throwsOn("toGo", due, grid, g -> g.toGo(n));
        Edges.throwsOn("addStore", due, grid, g -> g.addStore(n, 5, 5));
        Edges.throwsOn("charge", due, grid, g -> g.charge(n));
        Edges.throwsOn("addLoad", due, grid, g -> g.addLoad(n, 5, 5));
        Edges.throwsOn("setRank", due, grid, g -> g.setRank(n, 5));
        Edges.throwsOn("isLit", due, grid, g -> g.isLit(n) ? 1 : 0);
        Edges.throwsOn("waits", due, grid, g -> g.waits(n));
        Edges.throwsOn("bound", due, grid, g -> g.bound(n));
        Edges.throwsOn("demand", due, grid, g -> g.demand(n));
        Edges.throwsOn("isKept", due, grid, g -> g.isKept(n) ? 1 : 0);
        Edges.throwsOn("barrier", due, grid, g -> g.barrier(n));
        Edges.throwsOn("behind", due, grid, g -> g.behind(n));
        Edges.throwsOn("share", due, grid, g -> g.share(n, 5, n));
        Edges.throwsOn("shareBySteps", due, grid, g -> g.shareBySteps(n, 5, n));
        Edges.throwsOn("given", due, grid, g -> g.given(n));
        Edges.throwsOn("flow", due, grid, g -> g.flow(n));
    }

    /** Each call that takes a value, with one that is not allowed. */
    private static void refuseValues(Islandgrid grid) {
        Class<?> due = Edges.BAD_ARGUMENT;
        Edges.throwsOn("setPhase", due, grid, g -> g.setPhase(1, 360));
        Edges.throwsOn("addLine", due, grid, g -> g.addLine(1, 1));
        Edges.throwsOn("addGenerator", due, grid, g -> g.addGenerator(1, 2, 1, 0, 5));
        Edges.throwsOn("refuel", due, grid, g -> g.refuel(1, 0));
        Edges.throwsOn("addStore", due, grid, g -> g.addStore(1, 0, 5));
        Edges.throwsOn("addLoad", due, grid, g -> g.addLoad(1, 0, 5));
        Edges.throwsOn("setRank", due, grid, g -> g.setRank(1, 0));
        Edges.throwsOn("setReserve", due, grid, g -> g.setReserve(-1));
        Edges.throwsOn("setDelay", due, grid, g -> g.setDelay(-1));
        Edges.throwsOn("share", due, grid, g -> g.share(0, -1, 0));
        Edges.throwsOn("shareBySteps", due, grid, g -> g.shareBySteps(0, -1, 0));
        Edges.throwsOn("pass", due, grid, g -> g.pass(0));
    }

    /** Each call that a full grid does not allow as it is. */
    private static void refuseStates(Islandgrid grid) {
        Edges.throwsOn("addSite", Edges.BAD_STATE, grid, g -> g.addSite());
        Edges.throwsOn("addLine", Edges.BAD_STATE, grid, g -> g.addLine(0, 1));
        Edges.throwsOn("addGenerator", Edges.BAD_STATE, grid, g -> g.addGenerator(0, 1, 2, 3, 4));
        Edges.throwsOn("addStore", Edges.BAD_STATE, grid, g -> g.addStore(0, 5, 5));
        Edges.throwsOn("addLoad", Edges.BAD_STATE, grid, g -> g.addLoad(0, 5, 5));
        Edges.throwsOn("close, closed", Edges.BAD_STATE, grid, g -> g.close(0));
        Edges.throwsOn("close, 12 and 0", Edges.NOT_FIT, grid, g -> g.close(6));
        Edges.throwsOn("open", Edges.BAD_STATE, grid, g -> g.open(2));
        Edges.throwsOn("tie", Edges.BAD_STATE, grid, g -> g.tie());
        Edges.throwsOn("start", Edges.BAD_STATE, grid, g -> g.start(0));
        Edges.throwsOn("stop", Edges.BAD_STATE, grid, g -> g.stop(5));
        Edges.throwsOn("startNext", Edges.NO_ELEMENT, grid, g -> g.startNext(0));
        Edges.throwsOn("toGo", Edges.NO_ELEMENT, grid, g -> g.toGo(5));
        Edges.throwsOn("waits", Edges.NO_ELEMENT, grid, g -> g.waits(0));
        Edges.throwsOn("barrier", Edges.NO_ELEMENT, grid, g -> g.barrier(0));
        Edges.throwsOn("behind", Edges.NO_ELEMENT, grid, g -> g.behind(0));
        Edges.throwsOn("share", Edges.NO_ELEMENT, grid, g -> g.share(5, 5, 5));
        Edges.throwsOn("shareBySteps", Edges.NO_ELEMENT, grid, g -> g.shareBySteps(5, 5, 5));
    }
}
