/** The edges that "Sites and lines", "Window" and the promises 1 to 13 name: one test for each sentence. */
public final class EdgesOfSitesAndLinesTest {
    public static void main(String[] args) {
        Check.runAll(EdgesOfSitesAndLinesTest.class);
    }

    private static void sameIslands(String what, Islandgrid grid, int... due) {
        for (int site = 0; site < due.length; site++) {
            Check.same(what + ", island " + site, grid.island(site), due[site]);
            Check.same(what + ", islandByRounds " + site, grid.islandByRounds(site), due[site]);
        }
    }

    // Sites and lines

    /** "At most 6 sites have the numbers 0 to n - 1 in the order in which they were added." */
    static void terms06SitesHaveTheNumbers0To5() {
        for (int sites = 0; sites <= 6; sites++) {
            Islandgrid grid = Scenes.sites(sites);
            for (int site = 0; site < sites; site++) {
                Check.same("site " + site + " of " + sites, grid.island(site), site);
            }
            int next = sites;
            Edges.throwsOn("the site behind the last one of " + sites, Edges.NO_INDEX, grid, g -> g.island(next));
        }
    }

    /** "A site has a phase from 0 to 359, at first 0." */
    static void termsAPhaseIs0AtFirst() {
        Islandgrid grid = Scenes.sites(6);
        for (int site = 0; site < 6; site++) {
            Check.same("phase of the site " + site, grid.phase(site), 0);
            Check.same("phase before, of the site " + site, Scenes.sites(6).setPhase(site, 1), 0);
        }
    }

    /** "A site has a phase from 0 to 359, at first 0." Each of these is told again. */
    static void termsAPhaseIsFrom0To359() {
        Islandgrid grid = Scenes.sites(1);
        for (int phase = 0; phase < 360; phase++) {
            Check.same("phase before " + phase, grid.setPhase(0, phase), Math.max(0, phase - 1));
        }
        Check.same("the greatest phase", grid.phase(0), 359);
        grid.setPhase(0, 0);
        Check.same("the least phase", grid.phase(0), 0);
    }

    /** "At most 8 lines have the numbers 0 to n - 1" */
    static void terms08LinesHaveTheNumbers0To7() {
        for (int lines = 0; lines <= 8; lines++) {
            Islandgrid grid = Scenes.lines(lines);
            for (int line = 0; line < lines; line++) {
                Check.same("line " + line + " of " + lines, grid.gap(line), 0);
            }
            int next = lines;
            Edges.throwsOn("the line behind the last one of " + lines, Edges.NO_INDEX, grid, g -> g.gap(next));
        }
    }

    /** "a line is between two different sites and is open, as at first, or closed" */
    static void termsALineIsOpenAtFirst() {
        Islandgrid grid = Scenes.lines(8);
        Check.same("islands with open lines alone", grid.islands(), 2);
        for (int line = 0; line < 8; line++) {
            int one = line;
            Edges.throwsOn("open of the new line " + line, Edges.BAD_STATE, grid, g -> g.open(one));
            Check.same("close of the new line " + line, grid.close(line), 1);
        }
    }

    /** "The sites that are joined by closed lines, directly or over others, are an island" */
    static void termsSitesAreJoinedDirectlyOrOverOthers() {
        Islandgrid grid = Scenes.row();
        sameIslands("no line is closed", grid, 0, 1, 2, 3, 4, 5);
        grid.close(4);
        sameIslands("directly", grid, 0, 1, 2, 3, 4, 4);
        grid.close(3);
        sameIslands("over one other", grid, 0, 1, 2, 3, 3, 3);
        grid.close(2);
        grid.close(1);
        grid.close(0);
        sameIslands("over four others", grid, 0, 0, 0, 0, 0, 0);
    }

    /** "its number is the lowest number of its sites" - whichever end a line was added from */
    static void termsTheNumberOfAnIslandIsTheLowest() {
        Islandgrid grid = Scenes.sites(6);
        grid.close(grid.addLine(5, 4));
        grid.close(grid.addLine(4, 2));
        sameIslands("added from the higher site", grid, 0, 1, 2, 3, 2, 2);
        Islandgrid other = Scenes.sites(6);
        other.close(other.addLine(2, 5));
        other.close(other.addLine(2, 4));
        sameIslands("added from the lower site", other, 0, 1, 2, 3, 2, 2);
        other.close(other.addLine(5, 0));
        sameIslands("joined to the site 0", other, 0, 1, 0, 3, 0, 0);
    }

    /** "its phase is that of this site" - that of the lowest one, not that of the others */
    static void termsThePhaseOfAnIslandIsThatOfTheLowestSite() {
        Islandgrid grid = Scenes.phases(0, 0);
        grid.close(0);
        grid.setPhase(1, 359);
        grid.setPhase(2, 7);
        Check.same("phase of the lowest site", grid.phase(1), 359);
        Check.same("phase of the other site", grid.phase(2), 359);
        Check.same("phase of the site that is alone", grid.phase(0), 0);
    }

    /** "The main grid is tied to the site 0 or not, as at first" */
    static void termsTheMainGridIsNotTiedAtFirst() {
        Edges.throwsOn("untie without sites", Edges.BAD_STATE, new Islandgrid(), g -> g.untie());
        Edges.throwsOn("untie with a site", Edges.BAD_STATE, Scenes.sites(1), g -> g.untie());
        Check.same("bound of the site 0", Scenes.sites(1).bound(0), 0);
    }

    /** "the island of the site 0 is a tied one if it is" - this one alone, whatever sites it has */
    static void termsTheIslandOfTheSite0IsTiedAlone() {
        Islandgrid grid = Scenes.closedRow();
        grid.open(2);
        grid.tie();
        for (int site = 0; site < 6; site++) {
            Check.same("bound of the site " + site, grid.bound(site), site < 3 ? -1 : 0);
        }
        grid.open(0);
        Check.same("bound of the site 0, alone", grid.bound(0), -1);
        Check.same("bound of the site 1, opened", grid.bound(1), 0);
    }

    /** The same sentences with the most sites and lines, all of them closed, and one of them opened again */
    static void termsAnIslandOf6SitesAnd8Lines() {
        Islandgrid grid = Scenes.closedRow();
        for (int line = 5; line < 8; line++) {
            grid.close(grid.addLine(line - 5, line - 2));
        }
        sameIslands("all are closed", grid, 0, 0, 0, 0, 0, 0);
        Check.same("islands behind open", grid.open(7), 1);
        sameIslands("the line 7 is open", grid, 0, 0, 0, 0, 0, 0);
        int[] others = {6, 5, 4, 3, 2, 1, 0};
        for (int line : others) {
            grid.open(line);
        }
        sameIslands("all are open", grid, 0, 1, 2, 3, 4, 5);
        grid.close(7);
        sameIslands("the line 7 alone", grid, 0, 1, 2, 3, 4, 2);
    }

    // Window

    /** "Two phases fit if they differ by 10 at most around the circle." 10 apart */
    static void windowPhases10ApartFit() {
        int[] pairs = {0, 0, 0, 10, 10, 0, 100, 110, 110, 100, 349, 359, 170, 180, 185, 175};
        for (int i = 0; i < pairs.length; i += 2) {
            Check.same(pairs[i] + " and " + pairs[i + 1], Scenes.phases(pairs[i], pairs[i + 1]).close(0), 2);
        }
    }

    /** The same sentence, 11 apart */
    static void windowPhases11ApartDoNotFit() {
        int[] pairs = {0, 11, 11, 0, 100, 111, 111, 100, 348, 359, 170, 181, 186, 175};
        for (int i = 0; i < pairs.length; i += 2) {
            int one = pairs[i];
            int other = pairs[i + 1];
            Check.refused(one + " and " + other, Edges.NOT_FIT, () -> Scenes.phases(one, other), g -> g.close(0));
        }
    }

    /** The same sentence, "around the circle": across 359 and 0 */
    static void windowPhasesFitAcross359And0() {
        int[] pairs = {359, 0, 0, 359, 359, 9, 9, 359, 350, 0, 0, 350, 355, 5, 5, 355};
        for (int i = 0; i < pairs.length; i += 2) {
            Check.same(pairs[i] + " and " + pairs[i + 1], Scenes.phases(pairs[i], pairs[i + 1]).close(0), 2);
        }
    }

    /** The same sentence, 11 apart across 359 and 0 */
    static void windowPhasesDoNotFitAcross359And0() {
        int[] pairs = {359, 10, 10, 359, 349, 0, 0, 349, 355, 6, 6, 355, 0, 180, 180, 0, 90, 270, 270, 90};
        for (int i = 0; i < pairs.length; i += 2) {
            int one = pairs[i];
            int other = pairs[i + 1];
            Check.refused(one + " and " + other, Edges.NOT_FIT, () -> Scenes.phases(one, other), g -> g.close(0));
        }
    }

    /** All phases against some others: the window is as wide everywhere on the circle. */
    static void windowIsAsWideEverywhere() {
        for (int phase = 0; phase < 360; phase += 5) {
            for (int apart = -12; apart <= 12; apart++) {
                Islandgrid grid = Scenes.phases(phase, Math.floorMod(phase + apart, 360));
                String outcome = Check.outcome(grid, g -> g.close(0));
                String due = Math.abs(apart) <= 10 ? "2" : "throws.UnsupportedOperationException";
                Check.same(phase + " and " + apart + " more", outcome, due);
            }
        }
    }

    /** "The main grid and each tied island have the phase 0, whatever is told for sites." */
    static void windowTheTiedIslandHasThePhase0() {
        Islandgrid grid = Scenes.row();
        grid.close(0);
        grid.setPhase(0, 350);
        Check.same("ahead of the tie", grid.phase(1), 350);
        grid.tie();
        grid.setPhase(1, 200);
        Check.same("phase of the site 0", grid.phase(0), 0);
        Check.same("phase of the other site", grid.phase(1), 0);
        grid.setPhase(2, 349);
        Edges.throwsOn("349 does not fit 0", Edges.NOT_FIT, grid, g -> g.close(1));
        grid.setPhase(2, 350);
        Check.same("350 fits 0", grid.close(1), 4);
    }

    /** "A line between two islands ... can be closed only if both phases fit" - within one, it is free */
    static void windowALineWithinAnIslandIsFree() {
        Islandgrid grid = Scenes.lines(2);
        grid.close(0);
        grid.setPhase(0, 0);
        grid.setPhase(1, 180);
        Check.same("close within an island", grid.close(1), 1);
    }

    /** "the tie of the main grid, can be closed only if both phases fit" - the phase is that of the island */
    static void windowTheTieTakesThePhaseOfTheIsland() {
        Islandgrid grid = Scenes.closedRow();
        for (int site = 1; site < 6; site++) {
            grid.setPhase(site, 180);
        }
        Check.same("tie, the other sites do not fit", grid.tie(), 6);
    }

    // The promises

    /** "Creates a grid without sites, at the time 0." */
    static void promise01HasNoSiteAtTheTime0() {
        Islandgrid grid = new Islandgrid();
        Check.same("islands", grid.islands(), 0);
        Check.same("now", grid.now(), 0);
        Edges.throwsOn("the site 0", Edges.NO_INDEX, grid, g -> g.phase(0));
        Check.same("the first site", grid.addSite(), 0);
    }

    /** "Returns the number of the site." */
    static void promise02ReturnsTheNumbers0To5() {
        Islandgrid grid = new Islandgrid();
        for (int site = 0; site < 6; site++) {
            Check.same("addSite", grid.addSite(), site);
        }
    }

    /** "if there are 6 sites" */
    static void promise02ThrowsWith6Sites() {
        Check.same("with 5 sites", Scenes.sites(5).addSite(), 5);
        Check.refused("with 6 sites", Edges.BAD_STATE, () -> Scenes.sites(6), g -> g.addSite());
        Islandgrid grid = Scenes.sites(6);
        Edges.throwsOn("once", Edges.BAD_STATE, grid, g -> g.addSite());
        Edges.throwsOn("twice", Edges.BAD_STATE, grid, g -> g.addSite());
        Check.same("islands", grid.islands(), 6);
    }

    /** "Returns the phase before." */
    static void promise03ReturnsThePhaseBefore() {
        Islandgrid grid = Scenes.sites(2);
        Check.same("at first", grid.setPhase(1, 359), 0);
        Edges.throwsOn("a refused one", Edges.BAD_ARGUMENT, grid, g -> g.setPhase(1, 360));
        Check.same("behind a refused one", grid.setPhase(1, 0), 359);
        Check.same("behind 0", grid.setPhase(1, 0), 0);
        Check.same("of the other site", grid.setPhase(0, 5), 0);
        grid.tie();
        grid.setPhase(0, 200);
        Check.same("of the tied island, as told", grid.setPhase(0, 1), 200);
    }

    /** "if there is no such site" */
    static void promise03ThrowsWithoutSuchASite() {
        Edges.numbers("setPhase", 6, Scenes::sites, (g, site) -> g.setPhase(site, 5));
    }

    /** "if it is not between 0 and 359" */
    static void promise03ThrowsForAPhaseBeyond0To359() {
        Edges.range("setPhase", 0, 359, () -> Scenes.sites(1), (g, phase) -> g.setPhase(0, phase));
    }

    /** "Returns the number of the line." */
    static void promise04ReturnsTheNumbers0To7() {
        Islandgrid grid = Scenes.sites(6);
        for (int line = 0; line < 8; line++) {
            Check.same("addLine", grid.addLine(line % 6, (line + 5) % 6), line);
        }
    }

    /** "if there is no such site, for either": the one */
    static void promise04ThrowsWithoutSuchASite() {
        Edges.numbers("addLine from", 6, Scenes::sites, (g, site) -> g.addLine(site, 0));
    }

    /** "if there is no such site, for either": the other */
    static void promise04ThrowsWithoutSuchAnotherSite() {
        Edges.numbers("addLine to", 6, Scenes::sites, (g, site) -> g.addLine(0, site));
    }

    /** "if both are the same" */
    static void promise04ThrowsForTheSameSiteTwice() {
        for (int site = 0; site < 6; site++) {
            int same = site;
            Check.refused("within " + site, Edges.BAD_ARGUMENT, () -> Scenes.sites(6), g -> g.addLine(same, same));
        }
    }

    /** "if there are 8 lines" */
    static void promise04ThrowsWith8Lines() {
        Check.same("with 7 lines", Scenes.lines(7).addLine(0, 1), 7);
        Check.refused("with 8 lines", Edges.BAD_STATE, () -> Scenes.lines(8), g -> g.addLine(0, 1));
        Islandgrid grid = Scenes.lines(8);
        grid.close(0);
        Edges.throwsOn("with 8 lines, one closed", Edges.BAD_STATE, grid, g -> g.addLine(1, 0));
    }

    /** "Returns the number of islands then." from the most to the least */
    static void promise05ReturnsTheNumberOfIslands() {
        Islandgrid grid = Scenes.row();
        for (int line = 0; line < 5; line++) {
            Check.same("close " + line, grid.close(line), 5 - line);
        }
        Check.same("of one island", grid.close(grid.addLine(0, 5)), 1);
    }

    /** "if there is no such line" */
    static void promise05ThrowsWithoutSuchALine() {
        Edges.numbers("close", 8, Scenes::lines, (g, line) -> g.close(line));
    }

    /** "if it is closed" */
    static void promise05ThrowsForAClosedLine() {
        Check.refused("close twice", Edges.BAD_STATE, () -> {
            Islandgrid grid = Scenes.lines(1);
            grid.close(0);
            return grid;
        }, g -> g.close(0));
        Islandgrid grid = Scenes.lines(1);
        grid.close(0);
        grid.open(0);
        Check.same("close, open, close", grid.close(0), 1);
    }

    /** "if it is between two islands whose phases do not fit" - the line stays open */
    static void promise05ThrowsForPhasesThatDoNotFit() {
        Islandgrid grid = Scenes.phases(0, 11);
        Edges.throwsOn("close at 11", Edges.NOT_FIT, grid, g -> g.close(0));
        Check.same("islands behind it", grid.islands(), 3);
        Edges.throwsOn("it is still open", Edges.BAD_STATE, grid, g -> g.open(0));
        grid.setPhase(2, 10);
        Check.same("close at 10", grid.close(0), 2);
    }

    /** "Returns the number of islands then." from the least to the most */
    static void promise06ReturnsTheNumberOfIslands() {
        Islandgrid grid = Scenes.closedRow();
        for (int line = 0; line < 5; line++) {
            Check.same("open " + line, grid.open(line), 2 + line);
        }
        Islandgrid ring = Scenes.lines(2);
        ring.close(0);
        ring.close(1);
        Check.same("open of one of two", ring.open(1), 1);
        Check.same("open of the last one", ring.open(0), 2);
    }

    /** "if there is no such line" */
    static void promise06ThrowsWithoutSuchALine() {
        Edges.numbers("open", 8, Scenes::lines, (g, line) -> g.open(line));
    }

    /** "if it is open" */
    static void promise06ThrowsForAnOpenLine() {
        Check.refused("open of a new line", Edges.BAD_STATE, () -> Scenes.lines(1), g -> g.open(0));
        Check.refused("open twice", Edges.BAD_STATE, () -> {
            Islandgrid grid = Scenes.lines(2);
            grid.close(0);
            grid.close(1);
            grid.open(1);
            return grid;
        }, g -> g.open(1));
    }

    /** "Returns the number of sites of its island." the least and the most */
    static void promise07ReturnsTheNumberOfSites() {
        Check.same("tie of one site", Scenes.sites(1).tie(), 1);
        Check.same("tie of one of six", Scenes.row().tie(), 1);
        Check.same("tie of six", Scenes.closedRow().tie(), 6);
    }

    /** "if there is no site" */
    static void promise07ThrowsWithoutASite() {
        Check.refused("tie", Edges.NO_ELEMENT, Islandgrid::new, g -> g.tie());
        Islandgrid grid = new Islandgrid();
        Edges.throwsOn("tie without a site", Edges.NO_ELEMENT, grid, g -> g.tie());
        grid.addSite();
        Check.same("tie behind addSite", grid.tie(), 1);
    }

    /** "if it is tied" */
    static void promise07ThrowsForATiedGrid() {
        Check.refused("tie twice", Edges.BAD_STATE, () -> {
            Islandgrid grid = Scenes.sites(1);
            grid.tie();
            return grid;
        }, g -> g.tie());
        Islandgrid grid = Scenes.sites(1);
        grid.tie();
        grid.untie();
        Check.same("tie, untie, tie", grid.tie(), 1);
    }

    private static Islandgrid at(int phase) {
        Islandgrid grid = Scenes.sites(1);
        grid.setPhase(0, phase);
        return grid;
    }

    /** "if the phase of the island does not fit that of the main grid", which is 0 */
    static void promise07ThrowsForAPhaseThatDoesNotFit() {
        for (int phase : new int[] {0, 1, 9, 10, 350, 351, 359}) {
            Check.same("tie at " + phase, at(phase).tie(), 1);
        }
        for (int phase : new int[] {11, 12, 90, 179, 180, 181, 270, 348, 349}) {
            Check.refused("tie at " + phase, Edges.NOT_FIT, () -> at(phase), g -> g.tie());
        }
    }

    /** "Returns the number of sites of the island of the site 0." the least and the most */
    static void promise08ReturnsTheNumberOfSites() {
        Islandgrid grid = Scenes.closedRow();
        grid.tie();
        Check.same("untie of six", grid.untie(), 6);
        grid.tie();
        grid.open(0);
        Check.same("untie of one of six", grid.untie(), 1);
        Islandgrid one = Scenes.sites(1);
        one.tie();
        Check.same("untie of one", one.untie(), 1);
    }

    /** "if it is not tied" */
    static void promise08ThrowsForAGridThatIsNotTied() {
        Check.refused("untie of none", Edges.BAD_STATE, Islandgrid::new, g -> g.untie());
        Check.refused("untie of one site", Edges.BAD_STATE, () -> Scenes.sites(1), g -> g.untie());
        Islandgrid grid = Scenes.sites(1);
        grid.tie();
        grid.untie();
        Edges.throwsOn("untie twice", Edges.BAD_STATE, grid, g -> g.untie());
    }

    /** "if there is no such site" */
    static void promise09ThrowsWithoutSuchASite() {
        Edges.numbers("island", 6, Scenes::sites, (g, site) -> g.island(site));
    }

    /** "Returns the same island, found by rounds over all lines." whichever way the numbers come along */
    static void promise10FindsTheSameOverTheLongestWay() {
        int[][] orders = {{0, 1, 2, 3, 4}, {4, 3, 2, 1, 0}, {0, 2, 4, 1, 3}, {3, 1, 4, 2, 0}};
        for (int[] order : orders) {
            Islandgrid grid = Scenes.sites(6);
            for (int line : order) {
                grid.close(grid.addLine(line + 1, line));
            }
            sameIslands("a row of six from " + order[0], grid, 0, 0, 0, 0, 0, 0);
        }
    }

    /** "if there is no such site" */
    static void promise10ThrowsWithoutSuchASite() {
        Edges.numbers("islandByRounds", 6, Scenes::sites, (g, site) -> g.islandByRounds(site));
    }

    /** "Returns the number of islands." none, one and the most */
    static void promise11ReturnsTheNumberOfIslands() {
        for (int sites = 0; sites <= 6; sites++) {
            Check.same("islands of sites that are alone", Scenes.sites(sites).islands(), sites);
        }
        Check.same("islands of six sites in one", Scenes.closedRow().islands(), 1);
    }

    /** "if there is no such site" */
    static void promise12ThrowsWithoutSuchASite() {
        Edges.numbers("phase", 6, Scenes::sites, (g, site) -> g.phase(site));
    }

    /** "Returns the difference, 0 to 180": the least, the greatest, and those next to it */
    static void promise13ReturnsADifferenceFrom0To180() {
        int[] due = {0, 0, 0, 0, 179, 179, 0, 180, 180, 0, 181, 179, 181, 0, 179, 180, 0, 180, 179, 359, 180,
            180, 359, 179, 359, 0, 1, 0, 359, 1, 359, 359, 0, 350, 10, 20, 349, 0, 11};
        for (int i = 0; i < due.length; i += 3) {
            String what = "gap of " + due[i] + " and " + due[i + 1];
            Check.same(what, Scenes.phases(due[i], due[i + 1]).gap(0), due[i + 2]);
        }
    }

    /** "0 within one island" - for a line that is closed, and for one that is open, whatever is told for sites */
    static void promise13Returns0WithinOneIsland() {
        Islandgrid grid = Scenes.lines(2);
        grid.close(0);
        grid.setPhase(0, 100);
        grid.setPhase(1, 280);
        Check.same("gap of a closed line", grid.gap(0), 0);
        Check.same("gap of an open line", grid.gap(1), 0);
        grid.open(0);
        Check.same("gap between two islands", grid.gap(1), 180);
    }

    /** "if there is no such line" */
    static void promise13ThrowsWithoutSuchALine() {
        Edges.numbers("gap", 8, Scenes::lines, (g, line) -> g.gap(line));
    }
}
