import java.util.ArrayList;
import java.util.List;
import java.util.NoSuchElementException;

/** The document once more, word by word and without regard to speed, to compare random runs with. */
final class Model {
    static final class Line {
        int one;
        int other;
        boolean closed;
    }

    static final class Generator {
        int site;
        int least;
        int greatest;
        int warmUp;
        int fuel;
        char state = 'o';
        int toGo;
        int given;

        int can() {
            return state == 'r' ? Math.min(greatest, fuel) : 0;
        }
    }

    static final class Store {
        int site;
        int capacity;
        int rate;
        int charge;
        int flow;
    }

    static final class Load {
        int site;
        int power;
        int rank;
        boolean lit = true;
        int wait;
    }

    private final List<Integer> phases = new ArrayList<>();
    private final List<Line> lines = new ArrayList<>();
    private final List<Generator> generators = new ArrayList<>();
    private final List<Store> stores = new ArrayList<>();
    private final List<Load> loads = new ArrayList<>();
    private boolean tied;
    private int reserve;
    private int delay = 2;
    private int now;
    private int fromGrid;
    private int toGrid;
    private long burnt;
    private long served;
    private long lost;
    private long allFromGrid;
    private long allToGrid;

    private static void index(int number, List<?> things) {
        if (number < 0 || number >= things.size()) {
            throw new IndexOutOfBoundsException();
        }
    }

    private static void argument(boolean right) {
        if (!right) {
            throw new IllegalArgumentException();
        }
    }

    private static void state(boolean right) {
        if (!right) {
            throw new IllegalStateException();
        }
    }

    private static void element(boolean there) {
        if (!there) {
            throw new NoSuchElementException();
        }
    }

    private static void fit(int phase, int other) {
        if (around(phase, other) > 10) {
            throw new UnsupportedOperationException();
        }
    }

    private static int around(int phase, int other) {
        int steps = 0;
        int up = phase;
        int down = phase;
        while (up != other && down != other) {
            up = (up + 1) % 360;
            down = (down + 359) % 360;
            steps++;
        }
        return steps;
    }

    int addSite() {
        state(phases.size() < 6);
        phases.add(0);
        return phases.size() - 1;
    }

    int setPhase(int site, int phase) {
        index(site, phases);
        argument(phase >= 0 && phase <= 359);
        return phases.set(site, phase);
    }

    int addLine(int site, int other) {
        index(site, phases);
        index(other, phases);
        argument(site != other);
        state(lines.size() < 8);
        Line line = new Line();
        line.one = site;
        line.other = other;
        lines.add(line);
        return lines.size() - 1;
    }

    int close(int line) {
        index(line, lines);
        state(!lines.get(line).closed);
        Line chosen = lines.get(line);
        if (island(chosen.one) != island(chosen.other)) {
            fit(phase(chosen.one), phase(chosen.other));
        }
        chosen.closed = true;
        return islands();
    }

    int open(int line) {
        index(line, lines);
        state(lines.get(line).closed);
        lines.get(line).closed = false;
        return islands();
    }

    int tie() {
        element(!phases.isEmpty());
        state(!tied);
        fit(phase(0), 0);
        tied = true;
        return sitesOf(0);
    }

    int untie() {
        state(tied);
        tied = false;
        return sitesOf(0);
    }

    private int sitesOf(int island) {
        int sites = 0;
        for (int site = 0; site < phases.size(); site++) {
            sites += island(site) == island ? 1 : 0;
        }
        return sites;
    }

    int island(int site) {
        index(site, phases);
        int n = phases.size();
        boolean[][] joined = new boolean[n][n];
        for (int i = 0; i < n; i++) {
            joined[i][i] = true;
        }
        for (Line line : lines) {
            joined[line.one][line.other] |= line.closed;
            joined[line.other][line.one] |= line.closed;
        }
        for (int k = 0; k < n; k++) {
            for (int i = 0; i < n; i++) {
                for (int j = 0; j < n; j++) {
                    joined[i][j] |= joined[i][k] && joined[k][j];
                }
            }
        }
        int lowest = 0;
        while (!joined[site][lowest]) {
            lowest++;
        }
        return lowest;
    }

    int islands() {
        int number = 0;
        for (int site = 0; site < phases.size(); site++) {
            number += island(site) == site ? 1 : 0;
        }
        return number;
    }

    int phase(int site) {
        index(site, phases);
        return isTied(island(site)) ? 0 : phases.get(island(site));
    }

    private boolean isTied(int island) {
        return tied && island == island(0);
    }

    int gap(int line) {
        index(line, lines);
        return around(phase(lines.get(line).one), phase(lines.get(line).other));
    }

    int addGenerator(int site, int least, int greatest, int warmUp, int fuel) {
        index(site, phases);
        argument(least >= 0 && least <= 100);
        argument(greatest >= 1 && greatest <= 200 && greatest >= least);
        argument(warmUp >= 0 && warmUp <= 9);
        argument(fuel >= 0 && fuel <= 9999);
        state(generators.size() < 6);
        Generator generator = new Generator();
        generator.site = site;
        generator.least = least;
        generator.greatest = greatest;
        generator.warmUp = warmUp;
        generator.fuel = fuel;
        generators.add(generator);
        return generators.size() - 1;
    }

    int start(int generator) {
        index(generator, generators);
        Generator chosen = generators.get(generator);
        state(chosen.state == 'o');
        element(chosen.fuel >= chosen.least);
        chosen.toGo = chosen.warmUp;
        chosen.state = chosen.warmUp > 0 ? 'w' : 'r';
        return chosen.warmUp;
    }

    int stop(int generator) {
        index(generator, generators);
        state(generators.get(generator).state != 'o');
        generators.get(generator).state = 'o';
        return generators.get(generator).fuel;
    }

    int startNext(int site) {
        index(site, phases);
        List<Integer> fit = new ArrayList<>();
        for (int i = 0; i < generators.size(); i++) {
            Generator one = generators.get(i);
            if (island(one.site) == island(site) && one.state == 'o' && one.fuel >= one.least) {
                fit.add(i);
            }
        }
        element(!fit.isEmpty());
        fit.sort((a, b) -> {
            Generator one = generators.get(a);
            Generator other = generators.get(b);
            int byWarmUp = one.warmUp - other.warmUp;
            int byPower = other.greatest - one.greatest;
            return byWarmUp != 0 ? byWarmUp : byPower != 0 ? byPower : a - b;
        });
        start(fit.get(0));
        return fit.get(0);
    }

    int refuel(int generator, int fuel) {
        index(generator, generators);
        argument(fuel >= 1 && fuel <= 9999);
        state(generators.get(generator).fuel + fuel <= 99999);
        generators.get(generator).fuel += fuel;
        return generators.get(generator).fuel;
    }

    char state(int generator) {
        index(generator, generators);
        return generators.get(generator).state;
    }

    int fuel(int generator) {
        index(generator, generators);
        return generators.get(generator).fuel;
    }

    int toGo(int generator) {
        index(generator, generators);
        element(generators.get(generator).state == 'w');
        return generators.get(generator).toGo;
    }

    int addStore(int site, int capacity, int rate) {
        index(site, phases);
        argument(capacity >= 1 && capacity <= 999);
        argument(rate >= 1 && rate <= 99);
        state(stores.size() < 4);
        Store store = new Store();
        store.site = site;
        store.capacity = capacity;
        store.rate = rate;
        stores.add(store);
        return stores.size() - 1;
    }

    int charge(int store) {
        index(store, stores);
        return stores.get(store).charge;
    }

    int addLoad(int site, int power, int rank) {
        index(site, phases);
        argument(power >= 1 && power <= 200);
        argument(rank >= 1 && rank <= 9);
        state(loads.size() < 10);
        Load load = new Load();
        load.site = site;
        load.power = power;
        load.rank = rank;
        loads.add(load);
        return loads.size() - 1;
    }

    int setRank(int load, int rank) {
        index(load, loads);
        argument(rank >= 1 && rank <= 9);
        int before = loads.get(load).rank;
        loads.get(load).rank = rank;
        return before;
    }

    boolean isLit(int load) {
        index(load, loads);
        return loads.get(load).lit;
    }

    int waits(int load) {
        index(load, loads);
        element(!loads.get(load).lit);
        return loads.get(load).wait;
    }

    int setReserve(int value) {
        argument(value >= 0 && value <= 999);
        int before = reserve;
        reserve = value;
        return before;
    }

    int setDelay(int ticks) {
        argument(ticks >= 0 && ticks <= 9);
        int before = delay;
        delay = ticks;
        return before;
    }

    int bound(int site) {
        index(site, phases);
        int island = island(site);
        if (isTied(island)) {
            return -1;
        }
        int sum = 0;
        for (Generator generator : generators) {
            sum += island(generator.site) == island ? generator.can() : 0;
        }
        for (Store store : stores) {
            sum += island(store.site) == island ? Math.min(store.rate, store.charge) : 0;
        }
        return Math.max(sum - reserve, 0);
    }

    int demand(int site) {
        index(site, phases);
        int sum = 0;
        for (Load load : loads) {
            sum += load.lit && island(load.site) == island(site) ? load.power : 0;
        }
        return sum;
    }

    /** The loads of an island in their order. */
    private List<Integer> order(int island) {
        List<Integer> order = new ArrayList<>();
        for (int rank = 1; rank <= 9; rank++) {
            for (int load = 0; load < loads.size(); load++) {
                if (loads.get(load).rank == rank && island(loads.get(load).site) == island) {
                    order.add(load);
                }
            }
        }
        return order;
    }

    /** The place in the order at which the first load is not kept. */
    private int firstDark(int island) {
        int bound = bound(island);
        List<Integer> order = order(island);
        int sum = 0;
        int place = 0;
        while (place < order.size()) {
            sum += loads.get(order.get(place)).power;
            if (bound >= 0 && sum > bound) {
                break;
            }
            place++;
        }
        return place;
    }

    private int placesBehind(int load) {
        int island = island(loads.get(load).site);
        return order(island).indexOf(load) - firstDark(island);
    }

    boolean isKept(int load) {
        index(load, loads);
        return placesBehind(load) < 0;
    }

    int barrier(int load) {
        index(load, loads);
        element(!isKept(load));
        int island = island(loads.get(load).site);
        return order(island).get(firstDark(island));
    }

    int behind(int load) {
        index(load, loads);
        element(!isKept(load));
        return placesBehind(load);
    }

    int share(int site, int demand, int generator) {
        index(site, phases);
        index(generator, generators);
        argument(demand >= 0 && demand <= 1200);
        Generator chosen = generators.get(generator);
        element(chosen.state == 'r' && island(chosen.site) == island(site));
        return shares(island(site), demand)[generator];
    }

    private int[] shares(int island, int demand) {
        int[] gives = new int[generators.size()];
        int sum = 0;
        for (int i = 0; i < gives.length; i++) {
            Generator one = generators.get(i);
            if (one.state == 'r' && island(one.site) == island) {
                gives[i] = one.least;
                sum += one.least;
            }
        }
        while (sum < demand) {
            int least = -1;
            double leastQuotient = 0;
            for (int i = 0; i < gives.length; i++) {
                Generator one = generators.get(i);
                if (one.state != 'r' || island(one.site) != island || gives[i] >= one.can()) {
                    continue;
                }
                double quotient = (double) (gives[i] - one.least) / (one.can() - one.least);
                if (least < 0 || quotient < leastQuotient) {
                    least = i;
                    leastQuotient = quotient;
                }
            }
            if (least < 0) {
                break;
            }
            gives[least]++;
            sum++;
        }
        return gives;
    }

    int pass(int ticks) {
        argument(ticks >= 1 && ticks <= 12);
        for (int tick = 0; tick < ticks; tick++) {
            tick();
        }
        int lit = 0;
        for (Load load : loads) {
            lit += load.lit ? 1 : 0;
        }
        return lit;
    }

    private void tick() {
        now++;
        fromGrid = 0;
        toGrid = 0;
        for (Generator generator : generators) {
            generator.given = 0;
            if (generator.state == 'w') {
                generator.toGo--;
                if (generator.toGo == 0) {
                    generator.state = 'r';
                }
            }
        }
        for (Generator generator : generators) {
            if (generator.state == 'r' && generator.fuel < generator.least) {
                generator.state = 'o';
            }
        }
        for (int island = 0; island < phases.size(); island++) {
            if (island(island) == island) {
                shed(island);
                flow(island);
            }
        }
    }

    private void shed(int island) {
        int firstDark = firstDark(island);
        List<Integer> order = order(island);
        for (int place = 0; place < order.size(); place++) {
            Load load = loads.get(order.get(place));
            if (place >= firstDark) {
                load.lit = false;
                load.wait = delay;
            } else if (!load.lit && load.wait == 0) {
                load.lit = true;
            } else if (!load.lit) {
                load.wait--;
            }
        }
    }

    private void flow(int island) {
        int demand = demand(island);
        served += demand;
        int[] gives = shares(island, demand);
        int given = 0;
        for (int i = 0; i < gives.length; i++) {
            if (generators.get(i).state == 'r' && island(generators.get(i).site) == island) {
                generators.get(i).given = gives[i];
                generators.get(i).fuel -= gives[i];
                burnt += gives[i];
                given += gives[i];
            }
        }
        int missing = Math.max(0, demand - given);
        int beyond = Math.max(0, given - demand);
        for (Store store : stores) {
            if (island(store.site) == island) {
                int out = Math.min(missing, Math.min(store.rate, store.charge));
                int in = Math.min(beyond, Math.min(store.rate, store.capacity - store.charge));
                store.charge += in - out;
                store.flow = out - in;
                missing -= out;
                beyond -= in;
            }
        }
        if (isTied(island)) {
            fromGrid += missing;
            toGrid += beyond;
            allFromGrid += missing;
            allToGrid += beyond;
        } else if (missing > 0) {
            throw new AssertionError("an island without the main grid lacks power");
        } else {
            lost += beyond;
        }
    }

    int now() {
        return now;
    }

    int given(int generator) {
        index(generator, generators);
        return generators.get(generator).given;
    }

    int flowOf(int store) {
        index(store, stores);
        return stores.get(store).flow;
    }

    int grid() {
        return fromGrid - toGrid;
    }

    long burnt() {
        return burnt;
    }

    long served() {
        return served;
    }

    long lost() {
        return lost;
    }

    boolean isBalanced() {
        long sum = served + lost + allToGrid;
        for (Store store : stores) {
            sum += store.charge;
        }
        return burnt + allFromGrid == sum;
    }

    float litShare() {
        element(!loads.isEmpty());
        float lit = 0;
        for (Load load : loads) {
            lit += load.lit ? 1 : 0;
        }
        return lit / (float) loads.size();
    }
}
