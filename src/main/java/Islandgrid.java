import java.util.NoSuchElementException;

/** A controller of a small grid. */
public final class Islandgrid {
    private static final int MOST_SITES = 6;
    private static final int MOST_LINES = 8;
    private static final int MOST_GENERATORS = 6;
    private static final int MOST_STORES = 4;
    private static final int MOST_LOADS = 10;
    private static final int CIRCLE = 360;
    private static final int WINDOW = 10;
    private static final int MOST_LEAST_POWER = 100;
    private static final int MOST_POWER = 200;
    private static final int MOST_WARM_UP = 9;
    private static final int MOST_FUEL_AT_ONCE = 9999;
    private static final int MOST_FUEL = 99999;
    private static final int MOST_CAPACITY = 999;
    private static final int MOST_RATE = 99;
    private static final int LOWEST_RANK = 9;
    private static final int MOST_RESERVE = 999;
    private static final int MOST_DELAY = 9;
    private static final int MOST_DEMAND = 1200;
    private static final int MOST_TICKS = 12;
    private static final int FIRST_DELAY = 2;
    private static final int NO_BOUND = -1;
    private static final int NONE = -1;
    /** The greatest power of 2 that a generator's steps, 200 at most, can hold. */
    private static final int WIDEST_LEAP = 128;
    private static final char OFF = 'o';
    private static final char WARMING = 'w';
    private static final char RUNNING = 'r';

    private final Network network;
    private final Fleet fleet;
    private final Storage storage;
    private final Loads loads;
    private final Ledger ledger;
    private int reserve;
    private int delay;
    private int time;

    public Islandgrid() {
        network = new Network();
        fleet = new Fleet(network);
        storage = new Storage(network);
        loads = new Loads(network);
        ledger = new Ledger();
        delay = FIRST_DELAY;
    }

    // Sites and lines

    public int addSite() throws IllegalStateException {
        if (network.siteCount >= MOST_SITES) {
            throw new IllegalStateException("there are 6 sites");
        }
        return network.putSite();
    }

    public int setPhase(int site, int phase) throws IndexOutOfBoundsException, IllegalArgumentException {
        checkSite(site);
        checkRange(phase, 0, CIRCLE - 1);
        int before = network.phases[site];
        network.phases[site] = phase;
        return before;
    }

    public int addLine(int site, int other)
            throws IndexOutOfBoundsException, IllegalArgumentException, IllegalStateException {
        checkSite(site);
        checkSite(other);
        if (site == other) {
            throw new IllegalArgumentException("a line is between two different sites");
        }
        if (network.lineCount >= MOST_LINES) {
            throw new IllegalStateException("there are 8 lines");
        }
        return network.putLine(site, other);
    }

    public int close(int line)
            throws IndexOutOfBoundsException, IllegalStateException, UnsupportedOperationException {
        checkNumber(line, network.lineCount);
        if (network.closed[line]) {
            throw new IllegalStateException("the line is closed");
        }
        if (network.gapOf(line) > WINDOW) {
            throw new UnsupportedOperationException("the phases do not fit");
        }
        network.setClosed(line, true);
        return network.countIslands();
    }

    public int open(int line) throws IndexOutOfBoundsException, IllegalStateException {
        checkNumber(line, network.lineCount);
        if (!network.closed[line]) {
            throw new IllegalStateException("the line is open");
        }
        network.setClosed(line, false);
        return network.countIslands();
    }

    public int tie() throws NoSuchElementException, IllegalStateException, UnsupportedOperationException {
        if (network.siteCount == 0) {
            throw new NoSuchElementException("there is no site");
        }
        if (network.tied) {
            throw new IllegalStateException("the main grid is tied");
        }
        if (Network.apart(network.phaseOf(0), 0) > WINDOW) {
            throw new UnsupportedOperationException("the phases do not fit");
        }
        network.tied = true;
        return network.countSites(0);
    }

    public int untie() throws IllegalStateException {
        if (!network.tied) {
            throw new IllegalStateException("the main grid is not tied");
        }
        network.tied = false;
        return network.countSites(0);
    }

    public int island(int site) throws IndexOutOfBoundsException {
        checkSite(site);
        return network.islandOf[site];
    }

    public int islandByRounds(int site) throws IndexOutOfBoundsException {
        checkSite(site);
        return network.lowestByRounds(site);
    }

    public int islands() {
        return network.countIslands();
    }

    public int phase(int site) throws IndexOutOfBoundsException {
        checkSite(site);
        return network.phaseOf(network.islandOf[site]);
    }

    public int gap(int line) throws IndexOutOfBoundsException {
        checkNumber(line, network.lineCount);
        return network.gapOf(line);
    }

    // Generators and stores

    public int addGenerator(int site, int least, int greatest, int warmUp, int fuel)
            throws IndexOutOfBoundsException, IllegalArgumentException, IllegalStateException {
        checkSite(site);
        checkRange(least, 0, MOST_LEAST_POWER);
        checkRange(greatest, Math.max(1, least), MOST_POWER);
        checkRange(warmUp, 0, MOST_WARM_UP);
        checkRange(fuel, 0, MOST_FUEL_AT_ONCE);
        if (fleet.count >= MOST_GENERATORS) {
            throw new IllegalStateException("there are 6 generators");
        }
        return fleet.put(new Generator(site, least, greatest, warmUp, fuel));
    }

    public int start(int generator)
            throws IndexOutOfBoundsException, IllegalStateException, NoSuchElementException {
        Generator chosen = generatorAt(generator);
        if (chosen.mode != OFF) {
            throw new IllegalStateException("the generator is not off");
        }
        if (chosen.isShort()) {
            throw new NoSuchElementException("the fuel is less than the least power");
        }
        chosen.switchOn();
        return chosen.left;
    }

    public int stop(int generator) throws IndexOutOfBoundsException, IllegalStateException {
        Generator chosen = generatorAt(generator);
        if (chosen.mode == OFF) {
            throw new IllegalStateException("the generator is off");
        }
        chosen.switchOff();
        return chosen.tank;
    }

    public int startNext(int site) throws IndexOutOfBoundsException, NoSuchElementException {
        checkSite(site);
        int next = fleet.nextToStart(network.islandOf[site]);
        if (next == NONE) {
            throw new NoSuchElementException("there is no generator to start");
        }
        fleet.all[next].switchOn();
        return next;
    }

    public int refuel(int generator, int fuel)
            throws IndexOutOfBoundsException, IllegalArgumentException, IllegalStateException {
        Generator chosen = generatorAt(generator);
        checkRange(fuel, 1, MOST_FUEL_AT_ONCE);
        if (chosen.tank + fuel > MOST_FUEL) {
            throw new IllegalStateException("the generator would have more than 99999");
        }
        chosen.tank += fuel;
        return chosen.tank;
    }

    public char state(int generator) throws IndexOutOfBoundsException {
        return generatorAt(generator).mode;
    }

    public int fuel(int generator) throws IndexOutOfBoundsException {
        return generatorAt(generator).tank;
    }

    public int toGo(int generator) throws IndexOutOfBoundsException, NoSuchElementException {
        Generator chosen = generatorAt(generator);
        if (chosen.mode != WARMING) {
            throw new NoSuchElementException("the generator does not warm up");
        }
        return chosen.left;
    }

    public int addStore(int site, int capacity, int rate)
            throws IndexOutOfBoundsException, IllegalArgumentException, IllegalStateException {
        checkSite(site);
        checkRange(capacity, 1, MOST_CAPACITY);
        checkRange(rate, 1, MOST_RATE);
        if (storage.count >= MOST_STORES) {
            throw new IllegalStateException("there are 4 stores");
        }
        return storage.put(new Store(site, capacity, rate));
    }

    public int charge(int store) throws IndexOutOfBoundsException {
        return storeAt(store).held;
    }

    // Loads

    public int addLoad(int site, int power, int rank)
            throws IndexOutOfBoundsException, IllegalArgumentException, IllegalStateException {
        checkSite(site);
        checkRange(power, 1, MOST_POWER);
        checkRange(rank, 1, LOWEST_RANK);
        if (loads.count >= MOST_LOADS) {
            throw new IllegalStateException("there are 10 loads");
        }
        return loads.put(site, power, rank);
    }

    public int setRank(int load, int rank) throws IndexOutOfBoundsException, IllegalArgumentException {
        Load chosen = loadAt(load);
        checkRange(rank, 1, LOWEST_RANK);
        int before = chosen.rank;
        chosen.rank = rank;
        return before;
    }

    public boolean isLit(int load) throws IndexOutOfBoundsException {
        return loadAt(load).lit;
    }

    public int waits(int load) throws IndexOutOfBoundsException, NoSuchElementException {
        Load chosen = loadAt(load);
        if (chosen.lit) {
            throw new NoSuchElementException("the load is lit");
        }
        return chosen.wait;
    }

    public int setReserve(int reserve) throws IllegalArgumentException {
        checkRange(reserve, 0, MOST_RESERVE);
        int before = this.reserve;
        this.reserve = reserve;
        return before;
    }

    public int setDelay(int ticks) throws IllegalArgumentException {
        checkRange(ticks, 0, MOST_DELAY);
        int before = delay;
        delay = ticks;
        return before;
    }

    // Supply and shares

    public int bound(int site) throws IndexOutOfBoundsException {
        checkSite(site);
        return boundOf(network.islandOf[site]);
    }

    public int demand(int site) throws IndexOutOfBoundsException {
        checkSite(site);
        return loads.sumOfLit(network.islandOf[site]);
    }

    public boolean isKept(int load) throws IndexOutOfBoundsException {
        Load chosen = loadAt(load);
        return loads.keeps(chosen, boundFor(chosen));
    }

    public int barrier(int load) throws IndexOutOfBoundsException, NoSuchElementException {
        Load chosen = unkeptLoadAt(load);
        return loads.firstUnkept(network.islandOf[chosen.site], boundFor(chosen));
    }

    public int behind(int load) throws IndexOutOfBoundsException, NoSuchElementException {
        Load chosen = unkeptLoadAt(load);
        return loads.countUnkeptAhead(chosen, boundFor(chosen));
    }

    public int share(int site, int demand, int generator)
            throws IndexOutOfBoundsException, IllegalArgumentException, NoSuchElementException {
        checkShare(site, demand, generator);
        return fleet.shareFromOrder(network.islandOf[site], demand, generator);
    }

    public int shareBySteps(int site, int demand, int generator)
            throws IndexOutOfBoundsException, IllegalArgumentException, NoSuchElementException {
        checkShare(site, demand, generator);
        return fleet.shareFromSteps(network.islandOf[site], demand, generator);
    }

    // Ticks and sums

    public int pass(int ticks) throws IllegalArgumentException {
        checkRange(ticks, 1, MOST_TICKS);
        for (int tick = 0; tick < ticks; tick++) {
            passOneTick();
        }
        return loads.countLit();
    }

    public int now() {
        return time;
    }

    public int given(int generator) throws IndexOutOfBoundsException {
        return generatorAt(generator).gave;
    }

    public int flow(int store) throws IndexOutOfBoundsException {
        return storeAt(store).gave;
    }

    public int grid() {
        return ledger.gridGave;
    }

    public long burnt() {
        return ledger.burntSum;
    }

    public long served() {
        return ledger.servedSum;
    }

    public long lost() {
        return ledger.lostSum;
    }

    public boolean isBalanced() {
        return ledger.burntSum + ledger.fromGridSum
                == ledger.servedSum + ledger.lostSum + ledger.toGridSum + storage.sumHeld();
    }

    public float litShare() throws NoSuchElementException {
        if (loads.count == 0) {
            throw new NoSuchElementException("there is no load");
        }
        return (float) loads.countLit() / (float) loads.count;
    }

    // What the calls have in common

    private static void checkNumber(int number, int count) {
        if (number < 0 || number >= count) {
            throw new IndexOutOfBoundsException("there is no such number");
        }
    }

    private static void checkRange(int value, int lowest, int highest) {
        if (value < lowest || value > highest) {
            throw new IllegalArgumentException("the value is out of its range");
        }
    }

    private void checkSite(int site) {
        checkNumber(site, network.siteCount);
    }

    private Generator generatorAt(int number) {
        checkNumber(number, fleet.count);
        return fleet.all[number];
    }

    private Store storeAt(int number) {
        checkNumber(number, storage.count);
        return storage.all[number];
    }

    private Load loadAt(int number) {
        checkNumber(number, loads.count);
        return loads.all[number];
    }

    private Load unkeptLoadAt(int number) {
        Load chosen = loadAt(number);
        if (loads.keeps(chosen, boundFor(chosen))) {
            throw new NoSuchElementException("the load would be kept");
        }
        return chosen;
    }

    private void checkShare(int site, int demand, int generator) {
        checkSite(site);
        checkNumber(generator, fleet.count);
        checkRange(demand, 0, MOST_DEMAND);
        if (!fleet.runsOn(generator, network.islandOf[site])) {
            throw new NoSuchElementException("the generator does not run on this island");
        }
    }

    private int boundFor(Load load) {
        return boundOf(network.islandOf[load.site]);
    }

    private int boundOf(int island) {
        if (network.isTied(island)) {
            return NO_BOUND;
        }
        return Math.max(0, fleet.sumOfSupply(island) + storage.sumOfSupply(island) - reserve);
    }

    private void passOneTick() {
        time++;
        fleet.beginTick();
        ledger.gridGave = 0;
        for (int island = 0; island < network.siteCount; island++) {
            if (network.islandOf[island] == island) {
                balance(island);
            }
        }
    }

    private void balance(int island) {
        loads.shed(island, boundOf(island), delay);
        int wanted = loads.sumOfLit(island);
        int made = fleet.giveFor(island, wanted);
        ledger.servedSum += wanted;
        ledger.burntSum += made;
        if (made < wanted) {
            // Within its bound, an island that is not tied lacks nothing that its stores can't give.
            ledger.takeFromGrid(storage.dischargeUpTo(island, wanted - made));
        } else {
            int spare = storage.chargeUpTo(island, made - wanted);
            if (network.isTied(island)) {
                ledger.giveToGrid(spare);
            } else {
                ledger.lostSum += spare;
            }
        }
    }

    /** The sites, the lines, the tie of the main grid, and the islands that they make. */
    private static final class Network {
        int siteCount;
        int lineCount;
        boolean tied;
        final int[] phases = new int[MOST_SITES];
        /** The island of each site, found anew whenever a site comes or a line is switched. */
        final int[] islandOf = new int[MOST_SITES];
        final int[] oneEnd = new int[MOST_LINES];
        final int[] otherEnd = new int[MOST_LINES];
        final boolean[] closed = new boolean[MOST_LINES];
        private final int[] toVisit = new int[MOST_SITES];
        private final int[] lowest = new int[MOST_SITES];

        int putSite() {
            int site = siteCount;
            siteCount++;
            findIslands();
            return site;
        }

        int putLine(int site, int other) {
            int line = lineCount;
            oneEnd[line] = site;
            otherEnd[line] = other;
            lineCount++;
            return line;
        }

        void setClosed(int line, boolean nowClosed) {
            closed[line] = nowClosed;
            findIslands();
        }

        private void findIslands() {
            for (int site = 0; site < siteCount; site++) {
                islandOf[site] = NONE;
            }
            for (int site = 0; site < siteCount; site++) {
                if (islandOf[site] == NONE) {
                    goFrom(site);
                }
            }
        }

        /** Goes from site to site; the sites are taken by rising numbers, so the first one is the lowest. */
        private void goFrom(int first) {
            islandOf[first] = first;
            toVisit[0] = first;
            int known = 1;
            for (int visited = 0; visited < known && visited < siteCount; visited++) {
                int here = toVisit[visited];
                for (int line = 0; line < lineCount; line++) {
                    int there = acrossFrom(here, line);
                    if (there != NONE && islandOf[there] == NONE) {
                        islandOf[there] = first;
                        toVisit[known] = there;
                        known++;
                    }
                }
            }
        }

        private int acrossFrom(int site, int line) {
            if (!closed[line]) {
                return NONE;
            }
            if (oneEnd[line] == site) {
                return otherEnd[line];
            }
            return otherEnd[line] == site ? oneEnd[line] : NONE;
        }

        /** In each round the lowest number comes at least one site further. */
        int lowestByRounds(int wanted) {
            for (int site = 0; site < siteCount; site++) {
                lowest[site] = site;
            }
            for (int round = 0; round < siteCount; round++) {
                for (int line = 0; line < lineCount; line++) {
                    if (closed[line]) {
                        int lower = Math.min(lowest[oneEnd[line]], lowest[otherEnd[line]]);
                        lowest[oneEnd[line]] = lower;
                        lowest[otherEnd[line]] = lower;
                    }
                }
            }
            return lowest[wanted];
        }

        int countIslands() {
            int number = 0;
            for (int site = 0; site < siteCount; site++) {
                if (islandOf[site] == site) {
                    number++;
                }
            }
            return number;
        }

        int countSites(int island) {
            int number = 0;
            for (int site = 0; site < siteCount; site++) {
                if (islandOf[site] == island) {
                    number++;
                }
            }
            return number;
        }

        boolean isTied(int island) {
            return tied && island == 0;
        }

        int phaseOf(int island) {
            return isTied(island) ? 0 : phases[island];
        }

        int gapOf(int line) {
            return apart(phaseOf(islandOf[oneEnd[line]]), phaseOf(islandOf[otherEnd[line]]));
        }

        static int apart(int one, int other) {
            int straight = Math.abs(one - other);
            return Math.min(straight, CIRCLE - straight);
        }
    }

    private static final class Generator {
        final int site;
        final int least;
        final int greatest;
        final int warmUp;
        int tank;
        char mode = OFF;
        /** The ticks that are left of the warm-up. */
        int left;
        /** What it gave in the latest tick. */
        int gave;

        Generator(int site, int least, int greatest, int warmUp, int tank) {
            this.site = site;
            this.least = least;
            this.greatest = greatest;
            this.warmUp = warmUp;
            this.tank = tank;
        }

        boolean isShort() {
            return tank < least;
        }

        void switchOn() {
            left = warmUp;
            mode = left == 0 ? RUNNING : WARMING;
        }

        void switchOff() {
            mode = OFF;
        }

        void beginTick() {
            gave = 0;
            if (mode == WARMING) {
                left--;
                mode = left == 0 ? RUNNING : WARMING;
            }
            if (mode == RUNNING && isShort()) {
                switchOff();
            }
        }

        int supply() {
            return Math.min(greatest, tank);
        }

        /** How many steps it can give above its least power; none if the fuel does not even reach that. */
        int steps() {
            return Math.max(0, supply() - least);
        }

        void burn(int power) {
            gave = power;
            tank -= power;
        }

        boolean startsAhead(Generator other) {
            if (warmUp != other.warmUp) {
                return warmUp < other.warmUp;
            }
            return greatest > other.greatest;
        }
    }

    /** The generators, and how they share a demand by droop. */
    private static final class Fleet {
        private final Network network;
        final Generator[] all = new Generator[MOST_GENERATORS];
        int count;
        /** The steps of each generator that runs on the island in question, 0 for the others. */
        private final int[] steps = new int[MOST_GENERATORS];
        /** How many of these are taken for a demand. */
        private final int[] taken = new int[MOST_GENERATORS];

        Fleet(Network network) {
            this.network = network;
        }

        int put(Generator generator) {
            int number = count;
            all[number] = generator;
            count++;
            return number;
        }

        boolean runsOn(int number, int island) {
            return all[number].mode == RUNNING && network.islandOf[all[number].site] == island;
        }

        int nextToStart(int island) {
            int best = NONE;
            for (int number = 0; number < count; number++) {
                Generator one = all[number];
                boolean fit = one.mode == OFF && !one.isShort() && network.islandOf[one.site] == island;
                if (fit && (best == NONE || one.startsAhead(all[best]))) {
                    best = number;
                }
            }
            return best;
        }

        void beginTick() {
            for (int number = 0; number < count; number++) {
                all[number].beginTick();
            }
        }

        int sumOfSupply(int island) {
            int sum = 0;
            for (int number = 0; number < count; number++) {
                if (runsOn(number, island)) {
                    sum += all[number].supply();
                }
            }
            return sum;
        }

        private int sumOfLeast(int island) {
            int sum = 0;
            for (int number = 0; number < count; number++) {
                if (runsOn(number, island)) {
                    sum += all[number].least;
                }
            }
            return sum;
        }

        private void measureSteps(int island) {
            for (int number = 0; number < count; number++) {
                steps[number] = runsOn(number, island) ? all[number].steps() : 0;
            }
        }

        int shareFromOrder(int island, int demand, int number) {
            measureSteps(island);
            return all[number].least + stepsWithin(number, demand - sumOfLeast(island));
        }

        /**
         * How many steps of a generator are among the first ones of its island. Its own steps come in
         * their order, so that their number can be found by halves.
         */
        private int stepsWithin(int number, int first) {
            int within = 0;
            for (int leap = WIDEST_LEAP; leap > 0; leap /= 2) {
                int tried = within + leap;
                if (tried <= steps[number] && stepsAhead(number, tried - 1) < first) {
                    within = tried;
                }
            }
            return within;
        }

        /** How many steps of the island come ahead of a step of a generator, counted from 0. */
        private int stepsAhead(int number, int step) {
            int own = steps[number];
            if (own <= 0) {
                return 0;
            }
            int sum = 0;
            for (int other = 0; other < count; other++) {
                int reached = step * steps[other];
                // Of equal quotients, that of the lower number comes ahead.
                int ahead = other < number ? reached / own + 1 : (reached + own - 1) / own;
                sum += Math.min(steps[other], ahead);
            }
            return sum;
        }

        int shareFromSteps(int island, int demand, int number) {
            measureSteps(island);
            for (int each = 0; each < count; each++) {
                taken[each] = 0;
            }
            boolean more = true;
            for (int sum = sumOfLeast(island); sum < demand && more; sum++) {
                int next = nextToStep();
                more = next != NONE;
                if (more) {
                    taken[next]++;
                }
            }
            return all[number].least + taken[number];
        }

        private int nextToStep() {
            int best = NONE;
            for (int number = 0; number < count; number++) {
                if (taken[number] < steps[number] && (best == NONE || isLessLoaded(number, best))) {
                    best = number;
                }
            }
            return best;
        }

        /** Compares the quotients without dividing. */
        private boolean isLessLoaded(int number, int other) {
            return taken[number] * steps[other] < taken[other] * steps[number];
        }

        /** Lets the running generators of an island give for a demand, and returns what they give in all. */
        int giveFor(int island, int demand) {
            // The steps are measured ahead of the first burning, since they depend on all the fuel.
            measureSteps(island);
            int first = demand - sumOfLeast(island);
            int sum = 0;
            for (int number = 0; number < count; number++) {
                if (runsOn(number, island)) {
                    all[number].burn(all[number].least + stepsWithin(number, first));
                    sum += all[number].gave;
                }
            }
            return sum;
        }
    }

    private static final class Store {
        final int site;
        final int capacity;
        final int rate;
        int held;
        /** What it gave in the latest tick, minus what it was charged. */
        int gave;

        Store(int site, int capacity, int rate) {
            this.site = site;
            this.capacity = capacity;
            this.rate = rate;
        }

        int supply() {
            return Math.min(rate, held);
        }

        int room() {
            return Math.min(rate, capacity - held);
        }

        void move(int power) {
            gave = power;
            held -= power;
        }
    }

    private static final class Storage {
        private final Network network;
        final Store[] all = new Store[MOST_STORES];
        int count;

        Storage(Network network) {
            this.network = network;
        }

        int put(Store store) {
            int number = count;
            all[number] = store;
            count++;
            return number;
        }

        private boolean isOn(int number, int island) {
            return network.islandOf[all[number].site] == island;
        }

        int sumOfSupply(int island) {
            int sum = 0;
            for (int number = 0; number < count; number++) {
                if (isOn(number, island)) {
                    sum += all[number].supply();
                }
            }
            return sum;
        }

        int sumHeld() {
            int sum = 0;
            for (int number = 0; number < count; number++) {
                sum += all[number].held;
            }
            return sum;
        }

        /** Returns what the stores could not give. */
        int dischargeUpTo(int island, int power) {
            int missing = power;
            for (int number = 0; number < count; number++) {
                if (isOn(number, island)) {
                    int part = Math.min(missing, all[number].supply());
                    all[number].move(part);
                    missing -= part;
                }
            }
            return missing;
        }

        /** Returns what the stores could not take. */
        int chargeUpTo(int island, int power) {
            int spare = power;
            for (int number = 0; number < count; number++) {
                if (isOn(number, island)) {
                    int part = Math.min(spare, all[number].room());
                    all[number].move(-part);
                    spare -= part;
                }
            }
            return spare;
        }
    }

    private static final class Load {
        final int number;
        final int site;
        final int power;
        int rank;
        boolean lit = true;
        int wait;

        Load(int number, int site, int power, int rank) {
            this.number = number;
            this.site = site;
            this.power = power;
            this.rank = rank;
        }

        boolean comesAhead(Load other) {
            return rank < other.rank || rank == other.rank && number < other.number;
        }

        void update(boolean kept, int delay) {
            if (!kept) {
                lit = false;
                wait = delay;
            } else if (!lit) {
                if (wait == 0) {
                    lit = true;
                } else {
                    wait--;
                }
            }
        }
    }

    private static final class Loads {
        private final Network network;
        final Load[] all = new Load[MOST_LOADS];
        int count;

        Loads(Network network) {
            this.network = network;
        }

        int put(int site, int power, int rank) {
            int number = count;
            all[number] = new Load(number, site, power, rank);
            count++;
            return number;
        }

        private boolean isOn(Load load, int island) {
            return network.islandOf[load.site] == island;
        }

        int sumOfLit(int island) {
            int sum = 0;
            for (int number = 0; number < count; number++) {
                if (all[number].lit && isOn(all[number], island)) {
                    sum += all[number].power;
                }
            }
            return sum;
        }

        int countLit() {
            int lit = 0;
            for (int number = 0; number < count; number++) {
                if (all[number].lit) {
                    lit++;
                }
            }
            return lit;
        }

        /** Powers are positive: if the sum up to a load is within the bound, so are those of the loads ahead. */
        boolean keeps(Load load, int bound) {
            return bound == NO_BOUND || sumUpTo(load) <= bound;
        }

        private int sumUpTo(Load load) {
            int island = network.islandOf[load.site];
            int sum = load.power;
            for (int number = 0; number < count; number++) {
                if (isOn(all[number], island) && all[number].comesAhead(load)) {
                    sum += all[number].power;
                }
            }
            return sum;
        }

        int firstUnkept(int island, int bound) {
            int first = NONE;
            for (int number = 0; number < count; number++) {
                Load load = all[number];
                if (isOn(load, island) && !keeps(load, bound)
                        && (first == NONE || load.comesAhead(all[first]))) {
                    first = number;
                }
            }
            return first;
        }

        int countUnkeptAhead(Load load, int bound) {
            int island = network.islandOf[load.site];
            int ahead = 0;
            for (int number = 0; number < count; number++) {
                Load other = all[number];
                if (isOn(other, island) && other.comesAhead(load) && !keeps(other, bound)) {
                    ahead++;
                }
            }
            return ahead;
        }

        void shed(int island, int bound, int delay) {
            for (int number = 0; number < count; number++) {
                if (isOn(all[number], island)) {
                    all[number].update(keeps(all[number], bound), delay);
                }
            }
        }
    }

    /** What was burnt, served, lost and exchanged with the main grid. */
    private static final class Ledger {
        /** What came from the main grid in the latest tick, minus what went to it. */
        int gridGave;
        long burntSum;
        long servedSum;
        long lostSum;
        long fromGridSum;
        long toGridSum;

        void takeFromGrid(int power) {
            gridGave += power;
            fromGridSum += power;
        }

        void giveToGrid(int power) {
            gridGave -= power;
            toGridSum += power;
        }
    }
}
