import java.util.function.ToLongFunction;

/**
 * A text of all that calls tell of a grid, now and behind further calls. The grid is used up by it. With
 * its making of some 60 calls, a grid stays within its 512 calls.
 */
final class Picture {
    private final Islandgrid grid;
    private final StringBuilder text = new StringBuilder();

    private Picture(Islandgrid grid) {
        this.grid = grid;
    }

    static String of(Islandgrid grid) {
        Picture picture = new Picture(grid);
        picture.lookAtAll();
        picture.note("pass", g -> g.pass(1));
        picture.lookAtParts();
        picture.probe();
        return picture.text.toString();
    }

    /** Notes an outcome, and tells whether the thing that was asked for exists. */
    private boolean note(String what, ToLongFunction<Islandgrid> call) {
        String outcome = Check.outcome(grid, call);
        text.append(what).append(' ').append(outcome).append('\n');
        return !outcome.equals("throws.IndexOutOfBoundsException");
    }

    private void lookAtAll() {
        lookAtSums();
        for (int i = 0; i < 6; i++) {
            int n = i;
            if (note("island " + n, g -> g.island(n))) {
                note("islandByRounds " + n, g -> g.islandByRounds(n));
                note("phase " + n, g -> g.phase(n));
                note("bound " + n, g -> g.bound(n));
                note("demand " + n, g -> g.demand(n));
            }
        }
        for (int i = 0; i < 8; i++) {
            int n = i;
            note("gap " + n, g -> g.gap(n));
        }
        for (int i = 0; i < 10; i++) {
            int n = i;
            if (note("isKept " + n, g -> g.isKept(n) ? 1 : 0)) {
                note("barrier " + n, g -> g.barrier(n));
                note("behind " + n, g -> g.behind(n));
            }
        }
        lookAtParts();
    }

    private void lookAtSums() {
        note("islands", g -> g.islands());
        note("now", g -> g.now());
        note("grid", g -> g.grid());
        note("burnt", g -> g.burnt());
        note("served", g -> g.served());
        note("lost", g -> g.lost());
        note("isBalanced", g -> g.isBalanced() ? 1 : 0);
        note("litShare", g -> Float.floatToIntBits(g.litShare()));
    }

    private void lookAtParts() {
        for (int i = 0; i < 6; i++) {
            int n = i;
            if (note("state " + n, g -> g.state(n))) {
                note("fuel " + n, g -> g.fuel(n));
                note("toGo " + n, g -> g.toGo(n));
                note("given " + n, g -> g.given(n));
            }
        }
        for (int i = 0; i < 4; i++) {
            int n = i;
            if (note("charge " + n, g -> g.charge(n))) {
                note("flow " + n, g -> g.flow(n));
            }
        }
        for (int i = 0; i < 10; i++) {
            int n = i;
            if (note("isLit " + n, g -> g.isLit(n) ? 1 : 0)) {
                note("waits " + n, g -> g.waits(n));
            }
        }
    }

    /** Calls that change the grid tell what no other call does. */
    private void probe() {
        note("setReserve", g -> g.setReserve(7));
        note("setDelay", g -> g.setDelay(0));
        for (int i = 0; i < 10; i++) {
            int n = i;
            note("setRank " + n, g -> g.setRank(n, 1 + n % 3));
        }
        for (int i = 0; i < 6; i++) {
            int n = i;
            note("setPhase " + n, g -> g.setPhase(n, 0));
        }
        note("untie", g -> g.untie());
        note("tie", g -> g.tie());
        for (int i = 0; i < 8; i++) {
            int n = i;
            note("open " + n, g -> g.open(n));
            note("close " + n, g -> g.close(n));
        }
        for (int i = 0; i < 6; i++) {
            int n = i;
            note("start " + n, g -> g.start(n));
        }
        note("pass", g -> g.pass(12));
        lookAtSums();
        note("addSite", g -> g.addSite());
        note("addLine", g -> g.addLine(0, 1));
        note("addGenerator", g -> g.addGenerator(0, 0, 1, 0, 0));
        note("addStore", g -> g.addStore(0, 1, 1));
        note("addLoad", g -> g.addLoad(0, 1, 1));
    }
}
