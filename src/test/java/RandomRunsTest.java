import java.util.Random;

/** Random runs of 512 calls, each compared with the model: ordinary, edge and wrong arguments mixed. */
public final class RandomRunsTest {
    private static final int RUNS = 2500;
    private static final int CALLS = 512;

    private final Random random;
    private final Islandgrid grid = new Islandgrid();
    private final Model model = new Model();
    private final boolean wild;

    private RandomRunsTest(int run) {
        random = new Random(run);
        wild = run % 4 == 0;
    }

    public static void main(String[] args) {
        for (int run = 0; run < RUNS; run++) {
            new RandomRunsTest(run).go(run);
        }
        Check.finish("RandomRunsTest");
    }

    private void go(int run) {
        for (int call = 0; call < CALLS; call++) {
            int kind = call < 60 && random.nextInt(3) > 0 ? random.nextInt(8) : random.nextInt(48);
            int[] a = {number(11), number(11), number(11), random.nextInt(), random.nextInt()};
            String what = "run " + run + ", call " + call + ", kind " + kind;
            long mark = random.nextLong();
            String got = answer(true, kind, a, new Random(mark));
            String due = answer(false, kind, a, new Random(mark));
            Check.same(what, got, due);
        }
    }

    /** A number that is mostly there, as sites, lines, generators, stores and loads are. */
    private int number(int above) {
        int choice = random.nextInt(wild ? 6 : 24);
        return choice == 0 ? -1 : choice == 1 ? random.nextInt(above) : random.nextInt(6);
    }

    /** A value mostly within a range, at times at its edges or beyond. */
    private int value(Random dice, int lowest, int highest) {
        switch (dice.nextInt(wild ? 12 : 60)) {
            case 0: return lowest - 1;
            case 1: return highest + 1;
            case 2: return lowest;
            case 3: return highest;
            case 4: return dice.nextInt();
            default: return lowest + dice.nextInt(highest - lowest + 1);
        }
    }

    private String answer(boolean real, int kind, int[] a, Random dice) {
        try {
            return kind < 24 ? change(real, kind, a, dice) : look(real, kind, a, dice);
        } catch (RuntimeException e) {
            return "throws." + e.getClass().getName();
        }
    }

    private String change(boolean real, int kind, int[] a, Random dice) {
        int v = value(dice, 1, 9);
        int phase = dice.nextBoolean() ? value(dice, 0, 359) : Math.floorMod(dice.nextInt(31) - 15, 360);
        switch (kind) {
            case 0: return "" + (real ? grid.addSite() : model.addSite());
            case 1: case 8: case 9: return "" + (real ? grid.addLine(a[0], a[1]) : model.addLine(a[0], a[1]));
            case 2: case 10: return addGenerator(real, a[0], dice);
            case 3: {
                int power = value(dice, 1, dice.nextBoolean() ? 200 : 30);
                return "" + (real ? grid.addLoad(a[0], power, v) : model.addLoad(a[0], power, v));
            }
            case 4: {
                int capacity = value(dice, 1, 999);
                int rate = value(dice, 1, 99);
                return "" + (real ? grid.addStore(a[0], capacity, rate) : model.addStore(a[0], capacity, rate));
            }
            case 5: case 11: return "" + (real ? grid.close(a[0]) : model.close(a[0]));
            case 6: case 12: return "" + (real ? grid.start(a[0]) : model.start(a[0]));
            case 7: case 13: return "" + (real ? grid.startNext(a[0]) : model.startNext(a[0]));
            case 14: return "" + (real ? grid.setPhase(a[0], phase) : model.setPhase(a[0], phase));
            case 15: return "" + (real ? grid.open(a[0]) : model.open(a[0]));
            case 16: return "" + (real ? grid.tie() : model.tie());
            case 17: return "" + (real ? grid.untie() : model.untie());
            case 18: return "" + (real ? grid.stop(a[0]) : model.stop(a[0]));
            case 19: {
                int fuel = value(dice, 1, dice.nextBoolean() ? 9999 : 300);
                return "" + (real ? grid.refuel(a[0], fuel) : model.refuel(a[0], fuel));
            }
            case 20: return "" + (real ? grid.setRank(a[2], v) : model.setRank(a[2], v));
            case 21: {
                int reserve = value(dice, 0, dice.nextInt(4) == 0 ? 999 : 30);
                return "" + (real ? grid.setReserve(reserve) : model.setReserve(reserve));
            }
            case 22: return "" + (real ? grid.setDelay(v - 1) : model.setDelay(v - 1));
            default: {
                int ticks = value(dice, 1, dice.nextBoolean() ? 12 : 2);
                return "" + (real ? grid.pass(ticks) : model.pass(ticks));
            }
        }
    }

    private String addGenerator(boolean real, int site, Random dice) {
        int least = value(dice, 0, dice.nextBoolean() ? 100 : 20);
        int greatest = Math.max(dice.nextInt(20) == 0 ? 0 : least, value(dice, 1, 200));
        int warmUp = dice.nextBoolean() ? 0 : value(dice, 0, 9);
        int fuel = value(dice, 0, dice.nextBoolean() ? 9999 : 400);
        return "" + (real ? grid.addGenerator(site, least, greatest, warmUp, fuel)
                : model.addGenerator(site, least, greatest, warmUp, fuel));
    }

    private String look(boolean real, int kind, int[] a, Random dice) {
        int demand = value(dice, 0, dice.nextBoolean() ? 1200 : 200);
        int load = a[2];
        switch (kind) {
            case 24: return "" + (real ? grid.island(a[0]) : model.island(a[0]));
            case 25: return "" + (real ? grid.islandByRounds(a[0]) : model.island(a[0]));
            case 26: return "" + (real ? grid.islands() : model.islands());
            case 27: return "" + (real ? grid.phase(a[0]) : model.phase(a[0]));
            case 28: return "" + (real ? grid.gap(a[0]) : model.gap(a[0]));
            case 29: return "" + (real ? grid.state(a[0]) : model.state(a[0]));
            case 30: return "" + (real ? grid.fuel(a[0]) : model.fuel(a[0]));
            case 31: return "" + (real ? grid.toGo(a[0]) : model.toGo(a[0]));
            case 32: return "" + (real ? grid.charge(a[0]) : model.charge(a[0]));
            case 33: return "" + (real ? grid.isLit(load) : model.isLit(load));
            case 34: return "" + (real ? grid.waits(load) : model.waits(load));
            case 35: return "" + (real ? grid.bound(a[0]) : model.bound(a[0]));
            case 36: return "" + (real ? grid.demand(a[0]) : model.demand(a[0]));
            case 37: return "" + (real ? grid.isKept(load) : model.isKept(load));
            case 38: return "" + (real ? grid.barrier(load) : model.barrier(load));
            case 39: return "" + (real ? grid.behind(load) : model.behind(load));
            case 40: case 46:
                return "" + (real ? grid.share(a[0], demand, a[1]) : model.share(a[0], demand, a[1]));
            case 41: case 47:
                return "" + (real ? grid.shareBySteps(a[0], demand, a[1]) : model.share(a[0], demand, a[1]));
            case 42: return "" + (real ? grid.given(a[0]) : model.given(a[0]));
            case 43: return "" + (real ? grid.flow(a[0]) : model.flowOf(a[0]));
            case 44: return "" + (real ? grid.litShare() : model.litShare());
            default: return sums(real);
        }
    }

    private String sums(boolean real) {
        return real
                ? grid.now() + " " + grid.grid() + " " + grid.burnt() + " " + grid.served() + " " + grid.lost()
                        + " " + grid.isBalanced()
                : model.now() + " " + model.grid() + " " + model.burnt() + " " + model.served() + " "
                        + model.lost() + " " + model.isBalanced();
    }
}
