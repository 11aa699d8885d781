/** Grids that tests begin with. */
final class Scenes {
    private Scenes() {
    }

    static Islandgrid sites(int number) {
        Islandgrid grid = new Islandgrid();
        for (int site = 0; site < number; site++) {
            grid.addSite();
        }
        return grid;
    }

    /** Two sites with some open lines between them. */
    static Islandgrid lines(int number) {
        Islandgrid grid = sites(2);
        for (int line = 0; line < number; line++) {
            grid.addLine(line % 2, 1 - line % 2);
        }
        return grid;
    }

    /** One site with some generators, 10 to 50 with the warm-up 2 and the fuel 100, all off. */
    static Islandgrid generators(int number) {
        Islandgrid grid = sites(1);
        for (int generator = 0; generator < number; generator++) {
            grid.addGenerator(0, 10, 50, 2, 100);
        }
        return grid;
    }

    /** One site with some empty stores of the capacity 50 and the rate 20. */
    static Islandgrid stores(int number) {
        Islandgrid grid = sites(1);
        for (int store = 0; store < number; store++) {
            grid.addStore(0, 50, 20);
        }
        return grid;
    }

    /** One site with some loads of 20 and the rank 3, without supply. */
    static Islandgrid loads(int number) {
        Islandgrid grid = sites(1);
        for (int load = 0; load < number; load++) {
            grid.addLoad(0, 20, 3);
        }
        return grid;
    }

    /** Two sites, and one generator at the site 1, which is off. */
    static Islandgrid generator(int least, int greatest, int warmUp, int fuel) {
        Islandgrid grid = sites(2);
        grid.addGenerator(1, least, greatest, warmUp, fuel);
        return grid;
    }

    /** One site whose supply is given by one generator with the least power 0, which runs. */
    static Islandgrid supply(int power) {
        Islandgrid grid = sites(1);
        grid.addGenerator(0, 0, power, 0, 9999);
        grid.start(0);
        return grid;
    }

    /** One site with one store, which was charged in each of some ticks by what a generator, now off, gave. */
    static Islandgrid charged(int capacity, int rate, int power, int ticks) {
        Islandgrid grid = sites(1);
        grid.addGenerator(0, power, Math.max(1, power), 0, 9999);
        grid.addStore(0, capacity, rate);
        grid.start(0);
        for (int tick = 0; tick < ticks; tick++) {
            grid.pass(1);
        }
        grid.stop(0);
        return grid;
    }

    /** The sites 0 to 5 and the lines 0 to 4, which join them in a row, all open. */
    static Islandgrid row() {
        Islandgrid grid = sites(6);
        for (int site = 0; site < 5; site++) {
            grid.addLine(site, site + 1);
        }
        return grid;
    }

    /** The same row, all closed. */
    static Islandgrid closedRow() {
        Islandgrid grid = row();
        for (int line = 0; line < 5; line++) {
            grid.close(line);
        }
        return grid;
    }

    /** Three sites; an open line joins the sites 2 and 1, which have these phases. */
    static Islandgrid phases(int phase, int other) {
        Islandgrid grid = sites(3);
        grid.addLine(2, 1);
        grid.setPhase(1, phase);
        grid.setPhase(2, other);
        return grid;
    }

    /** One site with one generator, 10 to 50 with the fuel 100, that runs, and two loads of 20. */
    static Islandgrid running() {
        Islandgrid grid = sites(1);
        grid.addGenerator(0, 10, 50, 0, 100);
        grid.start(0);
        grid.addLoad(0, 20, 1);
        grid.addLoad(0, 20, 2);
        return grid;
    }

    /** Its generator, 10 to 50 at the site 1, runs with the fuel 5, and goes off in the next tick. */
    static Islandgrid shortOfFuel() {
        Islandgrid grid = generator(10, 50, 0, 50);
        grid.start(0);
        grid.addLoad(1, 45, 1);
        grid.pass(1);
        return grid;
    }

    /** As many sites, lines, generators, stores and loads as there can be, behind some ticks. */
    static Islandgrid full() {
        Islandgrid grid = sites(6);
        int[] ends = {0, 1, 1, 2, 0, 2, 3, 4, 4, 5, 3, 5, 2, 3, 0, 5};
        for (int line = 0; line < 8; line++) {
            grid.addLine(ends[2 * line], ends[2 * line + 1]);
        }
        for (int site = 0; site < 6; site++) {
            grid.addGenerator(site, 5 * site, 40 + 20 * site, site / 2, 300 + site);
            grid.setPhase(site, 4 * site);
        }
        for (int store = 0; store < 4; store++) {
            grid.addStore(store + 1, 60 + store, 10 + store);
        }
        for (int load = 0; load < 10; load++) {
            grid.addLoad(load % 6, 10 + 7 * load, 1 + load % 4);
        }
        grid.close(0);
        grid.close(1);
        grid.close(3);
        grid.tie();
        for (int generator = 0; generator < 5; generator++) {
            grid.start(generator);
        }
        grid.pass(2);
        return grid;
    }
}
