import java.util.NoSuchElementException;
import java.util.function.Supplier;

/** The promises 1 to 13. */
public final class SitesAndLinesTest {
    private static final Class<?> NO_INDEX = IndexOutOfBoundsException.class;
    private static final Class<?> BAD_ARGUMENT = IllegalArgumentException.class;
    private static final Class<?> BAD_STATE = IllegalStateException.class;
    private static final Class<?> NOT_FIT = UnsupportedOperationException.class;
    private static final Class<?> NO_ELEMENT = NoSuchElementException.class;

    public static void main(String[] args) {
        promise1NewObject();
        promise2AddSite();
        promise3SetPhase();
        promise4AddLine();
        promise5Close();
        promise5CloseWithinTheWindow();
        promise5CloseTakesThePhasesOfIslands();
        promise6Open();
        promise7Tie();
        promise7TieWithinTheWindow();
        promise8Untie();
        promises9To11Islands();
        promise12Phase();
        promise13Gap();
        Check.finish("SitesAndLinesTest");
    }

    private static void promise1NewObject() {
        Islandgrid grid = new Islandgrid();
        Check.same("new: islands", grid.islands(), 0);
        Check.same("new: now", grid.now(), 0);
        Check.same("new: grid", grid.grid(), 0);
        Check.same("new: burnt", grid.burnt(), 0);
        Check.same("new: served", grid.served(), 0);
        Check.same("new: lost", grid.lost(), 0);
        Check.same("new: isBalanced", grid.isBalanced(), true);
        Check.same("new: island", Check.outcome(grid, g -> g.island(0)), "throws.IndexOutOfBoundsException");
        Check.same("new: gap", Check.outcome(grid, g -> g.gap(0)), "throws.IndexOutOfBoundsException");
        Check.same("new: state", Check.outcome(grid, g -> g.state(0)), "throws.IndexOutOfBoundsException");
        Check.same("new: charge", Check.outcome(grid, g -> g.charge(0)), "throws.IndexOutOfBoundsException");
        Check.same("new: waits", Check.outcome(grid, g -> g.waits(0)), "throws.IndexOutOfBoundsException");
        Check.same("new: untie", Check.outcome(grid, g -> g.untie()), "throws.IllegalStateException");
        Check.same("new: reserve", grid.setReserve(1), 0);
        Check.same("new: delay", grid.setDelay(1), 2);
        Check.same("new: pass", grid.pass(1), 0);
        Check.same("new: now behind a tick", grid.now(), 1);
        Check.same("another new one: now", new Islandgrid().now(), 0);
        Check.same("another new one: delay", new Islandgrid().setDelay(1), 2);
    }

    private static void promise2AddSite() {
        Islandgrid grid = new Islandgrid();
        for (int site = 0; site < 6; site++) {
            Check.same("addSite", grid.addSite(), site);
            Check.same("islands behind addSite", grid.islands(), site + 1);
            Check.same("island of a new site", grid.island(site), site);
            Check.same("phase of a new site", grid.phase(site), 0);
        }
        Check.refused("a seventh addSite", BAD_STATE, () -> Scenes.sites(6), g -> g.addSite());
        Check.refused("addSite on a full grid", BAD_STATE, Scenes::full, g -> g.addSite());
    }

    private static void promise3SetPhase() {
        Islandgrid grid = Scenes.sites(2);
        Check.same("setPhase", grid.setPhase(1, 359), 0);
        Check.same("setPhase again", grid.setPhase(1, 0), 359);
        Check.same("setPhase a third time", grid.setPhase(1, 17), 0);
        Check.same("phase", grid.phase(1), 17);
        Check.same("phase of the other site", grid.phase(0), 0);
        Supplier<Islandgrid> scene = Scenes::full;
        Check.refused("setPhase below", BAD_ARGUMENT, scene, g -> g.setPhase(1, -1));
        Check.refused("setPhase above", BAD_ARGUMENT, scene, g -> g.setPhase(1, 360));
        Check.refused("setPhase far above", BAD_ARGUMENT, scene, g -> g.setPhase(1, Integer.MAX_VALUE));
        Check.refused("setPhase of no site", NO_INDEX, () -> Scenes.sites(2), g -> g.setPhase(2, 5));
        Check.refused("setPhase of a site below", NO_INDEX, scene, g -> g.setPhase(-1, 5));
        Check.refused("setPhase of a site above", NO_INDEX, scene, g -> g.setPhase(6, 5));
        Check.refused("setPhase, both wrong", NO_INDEX, scene, g -> g.setPhase(6, 360));
        Check.refused("setPhase, least site", NO_INDEX, scene, g -> g.setPhase(Integer.MIN_VALUE, 5));
    }

    private static void promise4AddLine() {
        Islandgrid grid = Scenes.sites(3);
        for (int line = 0; line < 8; line++) {
            Check.same("addLine", grid.addLine(line % 2 + 1, 0), line);
        }
        Check.same("islands with open lines", grid.islands(), 3);
        Check.same("a new line is open", Check.outcome(grid, g -> g.open(7)), "throws.IllegalStateException");
        Check.same("close of the last line", grid.close(7), 2);
        Check.same("island over the last line", grid.island(2), 0);
        Supplier<Islandgrid> scene = () -> Scenes.sites(3);
        Check.refused("addLine from no site", NO_INDEX, scene, g -> g.addLine(3, 0));
        Check.refused("addLine to no site", NO_INDEX, scene, g -> g.addLine(0, 3));
        Check.refused("addLine from below", NO_INDEX, scene, g -> g.addLine(-1, 0));
        Check.refused("addLine to below", NO_INDEX, scene, g -> g.addLine(0, -1));
        Check.refused("addLine within a site", BAD_ARGUMENT, scene, g -> g.addLine(1, 1));
        Check.refused("addLine within no site", NO_INDEX, scene, g -> g.addLine(3, 3));
        Check.refused("a ninth addLine", BAD_STATE, Scenes::full, g -> g.addLine(0, 1));
        Check.refused("a ninth addLine within a site", BAD_ARGUMENT, Scenes::full, g -> g.addLine(2, 2));
        Check.refused("a ninth addLine to no site", NO_INDEX, Scenes::full, g -> g.addLine(2, 6));
    }

    private static void promise5Close() {
        Islandgrid grid = Scenes.row();
        Check.same("close(0)", grid.close(0), 5);
        Check.same("close(4)", grid.close(4), 4);
        Check.same("close(2)", grid.close(2), 3);
        Check.same("close(1)", grid.close(1), 2);
        Check.same("island(3)", grid.island(3), 0);
        Check.same("island(4)", grid.island(4), 4);
        grid.addLine(3, 0);
        grid.setPhase(3, 180);
        Check.same("close within an island", grid.close(5), 2);
        Check.refused("close of no line", NO_INDEX, Scenes::row, g -> g.close(5));
        Check.refused("close of a line below", NO_INDEX, Scenes::full, g -> g.close(-1));
        Check.refused("close of a line above", NO_INDEX, Scenes::full, g -> g.close(8));
        Check.refused("close of a closed line", BAD_STATE, Scenes::full, g -> g.close(0));
    }

    private static void promise5CloseWithinTheWindow() {
        Check.same("close, 10 apart", Scenes.phases(100, 110).close(0), 2);
        Check.same("close, 10 apart downwards", Scenes.phases(110, 100).close(0), 2);
        Check.same("close, 10 apart around the circle", Scenes.phases(355, 5).close(0), 2);
        Check.same("close, 10 apart around the circle downwards", Scenes.phases(0, 350).close(0), 2);
        Check.refused("close, 11 apart", NOT_FIT, () -> Scenes.phases(100, 111), g -> g.close(0));
        Check.refused("close, 11 apart downwards", NOT_FIT, () -> Scenes.phases(111, 100), g -> g.close(0));
        Check.refused("close, 11 apart around the circle", NOT_FIT, () -> Scenes.phases(355, 6), g -> g.close(0));
        Check.refused("close, half a circle apart", NOT_FIT, () -> Scenes.phases(0, 180), g -> g.close(0));
    }

    /** The sites 1 and 2 are an island of the phase 50; the site 3 has another one. */
    private static Islandgrid pairAndOne(int phase) {
        Islandgrid grid = Scenes.row();
        grid.close(1);
        grid.setPhase(1, 50);
        grid.setPhase(2, 200);
        grid.setPhase(3, phase);
        return grid;
    }

    /** The main grid is tied to the site 0, for which another phase is told behind that. */
    private static Islandgrid tiedAndOne(int phase) {
        Islandgrid grid = Scenes.row();
        grid.tie();
        grid.setPhase(0, 90);
        grid.setPhase(1, phase);
        return grid;
    }

    private static void promise5CloseTakesThePhasesOfIslands() {
        Check.same("close, islands fit", pairAndOne(55).close(2), 4);
        Check.refused("close, only sites fit", NOT_FIT, () -> pairAndOne(200), g -> g.close(2));
        Check.same("close to the tied island", tiedAndOne(352).close(0), 5);
        Check.refused("close to the told phase", NOT_FIT, () -> tiedAndOne(90), g -> g.close(0));
    }

    private static void promise6Open() {
        Islandgrid grid = Scenes.closedRow();
        Check.same("open(2)", grid.open(2), 2);
        Check.same("island(2)", grid.island(2), 0);
        Check.same("island(5)", grid.island(5), 3);
        Check.same("open(0)", grid.open(0), 3);
        Check.same("island(2) behind open(0)", grid.island(2), 1);
        grid.addLine(2, 1);
        grid.close(5);
        Check.same("open beside another line", grid.open(1), 3);
        Check.same("open of the other line", grid.open(5), 4);
        grid.setPhase(3, 120);
        Check.same("open with any phases", grid.open(3), 5);
        Check.refused("open of an open line", BAD_STATE, Scenes::row, g -> g.open(1));
        Check.refused("open of an open line of many", BAD_STATE, Scenes::full, g -> g.open(2));
        Check.refused("open of no line", NO_INDEX, Scenes::row, g -> g.open(5));
        Check.refused("open of a line below", NO_INDEX, Scenes::full, g -> g.open(-1));
        Check.refused("open of a line above", NO_INDEX, Scenes::full, g -> g.open(8));
    }

    private static Islandgrid alone(int phase) {
        Islandgrid grid = Scenes.sites(2);
        grid.setPhase(0, phase);
        grid.setPhase(1, 180);
        return grid;
    }

    private static Islandgrid tied() {
        Islandgrid grid = Scenes.sites(2);
        grid.tie();
        grid.setPhase(0, 180);
        return grid;
    }

    private static void promise7Tie() {
        Check.same("tie of one site", Scenes.sites(1).tie(), 1);
        Islandgrid grid = Scenes.closedRow();
        grid.open(3);
        Check.same("tie of four sites", grid.tie(), 4);
        Check.same("islands behind tie", grid.islands(), 2);
        Check.same("bound of the tied island", grid.bound(3), -1);
        Check.same("bound of the other island", grid.bound(4), 0);
        Check.refused("tie without a site", NO_ELEMENT, Islandgrid::new, g -> g.tie());
        Check.refused("tie of a tied grid", BAD_STATE, Scenes::full, g -> g.tie());
        Check.refused("tie of a tied grid with another phase", BAD_STATE, SitesAndLinesTest::tied, g -> g.tie());
    }

    private static void promise7TieWithinTheWindow() {
        Check.same("tie at 10", alone(10).tie(), 1);
        Check.same("tie at 350", alone(350).tie(), 1);
        Check.refused("tie at 11", NOT_FIT, () -> alone(11), g -> g.tie());
        Check.refused("tie at 349", NOT_FIT, () -> alone(349), g -> g.tie());
        Check.refused("tie at 180", NOT_FIT, () -> alone(180), g -> g.tie());
    }

    private static void promise8Untie() {
        Islandgrid grid = Scenes.closedRow();
        grid.tie();
        grid.open(4);
        grid.setPhase(0, 77);
        Check.same("untie", grid.untie(), 5);
        Check.same("phase behind untie", grid.phase(4), 77);
        Check.same("bound behind untie", grid.bound(4), 0);
        Check.same("islands behind untie", grid.islands(), 2);
        grid.setPhase(0, 5);
        Check.same("tie behind untie", grid.tie(), 5);
        Check.refused("untie without a site", BAD_STATE, Islandgrid::new, g -> g.untie());
        Check.refused("untie of a grid that is not tied", BAD_STATE, Scenes::row, g -> g.untie());
        Check.refused("untie a second time", BAD_STATE, () -> {
            Islandgrid once = Scenes.full();
            once.untie();
            return once;
        }, g -> g.untie());
    }

    private static void sameIslands(String what, Islandgrid grid, int... due) {
        int number = 0;
        for (int site = 0; site < due.length; site++) {
            Check.same(what + ": island " + site, grid.island(site), due[site]);
            Check.same(what + ": islandByRounds " + site, grid.islandByRounds(site), due[site]);
            number += due[site] == site ? 1 : 0;
        }
        Check.same(what + ": islands", grid.islands(), number);
    }

    private static void promises9To11Islands() {
        sameIslands("without lines", Scenes.row(), 0, 1, 2, 3, 4, 5);
        sameIslands("a row", Scenes.closedRow(), 0, 0, 0, 0, 0, 0);
        Islandgrid backwards = Scenes.sites(6);
        for (int site = 5; site > 0; site--) {
            backwards.close(backwards.addLine(site, site - 1));
        }
        sameIslands("a row from its end", backwards, 0, 0, 0, 0, 0, 0);
        backwards.open(2);
        sameIslands("two rows", backwards, 0, 0, 0, 3, 3, 3);
        Islandgrid crossed = Scenes.sites(6);
        int[] ends = {5, 1, 3, 4, 1, 4, 0, 2, 2, 0};
        for (int line = 0; line < 5; line++) {
            crossed.close(crossed.addLine(ends[2 * line], ends[2 * line + 1]));
        }
        sameIslands("crossed lines", crossed, 0, 1, 0, 1, 1, 1);
        crossed.open(2);
        sameIslands("crossed lines without one", crossed, 0, 1, 0, 3, 3, 1);
        crossed.open(3);
        sameIslands("one line of two", crossed, 0, 1, 0, 3, 3, 1);
        crossed.open(4);
        sameIslands("no line of two", crossed, 0, 1, 2, 3, 3, 1);
        Islandgrid full = Scenes.full();
        sameIslands("a full grid", full, 0, 0, 0, 3, 3, 5);
        full.open(0);
        full.setPhase(5, 0);
        full.close(7);
        sameIslands("a full grid, closed by its last line", full, 0, 1, 1, 3, 3, 0);
        Check.same("islands of a new grid", new Islandgrid().islands(), 0);
        Check.refused("island of no site", NO_INDEX, Scenes::running, g -> g.island(1));
        Check.refused("island of a site below", NO_INDEX, Scenes::full, g -> g.island(-1));
        Check.refused("island of a site above", NO_INDEX, Scenes::full, g -> g.island(6));
        Check.refused("islandByRounds of no site", NO_INDEX, Scenes::running, g -> g.islandByRounds(1));
        Check.refused("islandByRounds of a site below", NO_INDEX, Scenes::full, g -> g.islandByRounds(-1));
        Check.refused("islandByRounds of a site above", NO_INDEX, Scenes::full, g -> g.islandByRounds(6));
    }

    private static void promise12Phase() {
        Islandgrid grid = Scenes.row();
        grid.close(1);
        grid.close(0);
        grid.setPhase(0, 3);
        grid.setPhase(1, 40);
        grid.setPhase(2, 80);
        grid.setPhase(3, 120);
        Check.same("phase of the lowest site", grid.phase(0), 3);
        Check.same("phase of the site in the middle", grid.phase(1), 3);
        Check.same("phase of the last site", grid.phase(2), 3);
        Check.same("phase of another island", grid.phase(3), 120);
        grid.tie();
        Check.same("phase of the tied island", grid.phase(2), 0);
        Check.same("phase of an island that is not tied", grid.phase(3), 120);
        grid.setPhase(0, 300);
        Check.same("phase of the tied island, another one told", grid.phase(0), 0);
        grid.open(0);
        Check.same("phase of what was opened", grid.phase(2), 40);
        grid.untie();
        Check.same("phase told meanwhile", grid.phase(0), 300);
        Check.refused("phase of no site", NO_INDEX, Scenes::running, g -> g.phase(1));
        Check.refused("phase of a site below", NO_INDEX, Scenes::full, g -> g.phase(-1));
        Check.refused("phase of a site above", NO_INDEX, Scenes::full, g -> g.phase(6));
    }

    private static void promise13Gap() {
        Check.same("gap of 0 and 180", Scenes.phases(0, 180).gap(0), 180);
        Check.same("gap of 0 and 181", Scenes.phases(0, 181).gap(0), 179);
        Check.same("gap of 181 and 0", Scenes.phases(181, 0).gap(0), 179);
        Check.same("gap of 359 and 0", Scenes.phases(359, 0).gap(0), 1);
        Check.same("gap of 200 and 250", Scenes.phases(200, 250).gap(0), 50);
        Check.same("gap of 30 and 30", Scenes.phases(30, 30).gap(0), 0);
        Check.same("gap of islands", pairAndOne(60).gap(2), 10);
        Check.same("gap of a closed line", pairAndOne(60).gap(1), 0);
        Check.same("gap at the tied island", tiedAndOne(93).gap(0), 93);
        Islandgrid grid = pairAndOne(60);
        grid.addLine(2, 1);
        Check.same("gap of an open line within an island", grid.gap(5), 0);
        Check.refused("gap of no line", NO_INDEX, Scenes::row, g -> g.gap(5));
        Check.refused("gap of a line below", NO_INDEX, Scenes::full, g -> g.gap(-1));
        Check.refused("gap of a line above", NO_INDEX, Scenes::full, g -> g.gap(8));
    }
}
