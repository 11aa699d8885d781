/** Grids that tests begin with. */
final class Scenes {
    private Scenes() {
    }

    static Islandgrid sites(int number) {
        Islandgrid grid = new Islandgrid();
        for (int site = 0; site < number; site++) {
            grid.addSite();
        }
        return grid;
    }

    /** The sites 0 to 5 and the lines 0 to 4, which join them in a row, all open. */
    static Islandgrid row() {
        Islandgrid grid = sites(6);
        for (int site = 0; site < 5; site++) {
            grid.addLine(site, site + 1);
        }
        return grid;
    }

    /** One site with one generator, 10 to 50 with the fuel 100, that runs, and two loads of 20. */
    static Islandgrid running() {
        Islandgrid grid = sites(1);
        grid.addGenerator(0, 10, 50, 0, 100);
        grid.start(0);
        grid.addLoad(0, 20, 1);
        grid.addLoad(0, 20, 2);
        return grid;
    }

    /** As many sites, lines, generators, stores and loads as there can be, behind some ticks. */
    static Islandgrid full() {
        Islandgrid grid = sites(6);
        int[] ends = {0, 1, 1, 2, 0, 2, 3, 4, 4, 5, 3, 5, 2, 3, 0, 5};
        for (int line = 0; line < 8; line++) {
            grid.addLine(ends[2 * line], ends[2 * line + 1]);
        }
        for (int site = 0; site < 6; site++) {
            grid.addGenerator(site, 5 * site, 40 + 20 * site, site / 2, 300 + site);
            grid.setPhase(site, 4 * site);
        }
        for (int store = 0; store < 4; store++) {
            grid.addStore(store + 1, 60 + store, 10 + store);
        }
        for (int load = 0; load < 10; load++) {
            grid.addLoad(load % 6, 10 + 7 * load, 1 + load % 4);
        }
        grid.close(0);
        grid.close(1);
        grid.close(3);
        grid.tie();
        for (int generator = 0; generator < 5; generator++) {
            grid.start(generator);
        }
        grid.pass(2);
        return grid;
    }
}
