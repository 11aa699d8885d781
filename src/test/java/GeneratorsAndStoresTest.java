import java.util.NoSuchElementException;
import java.util.function.Supplier;

/** The promises 14 to 23. */
public final class GeneratorsAndStoresTest {
    private static final Class<?> NO_INDEX = IndexOutOfBoundsException.class;
    private static final Class<?> BAD_ARGUMENT = IllegalArgumentException.class;
    private static final Class<?> BAD_STATE = IllegalStateException.class;
    private static final Class<?> NO_ELEMENT = NoSuchElementException.class;

    public static void main(String[] args) {
        promise14AddGenerator();
        promise14AddGeneratorRefuses();
        promise15Start();
        promise15StartRefuses();
        promise16Stop();
        promise17StartNext();
        promise17StartNextRefuses();
        promise18Refuel();
        promise19State();
        promise20Fuel();
        promise21ToGo();
        promise22AddStore();
        promise23Charge();
        Check.finish("GeneratorsAndStoresTest");
    }

    private static void promise14AddGenerator() {
        Islandgrid grid = Scenes.sites(2);
        Check.same("addGenerator, the least values", grid.addGenerator(0, 0, 1, 0, 0), 0);
        Check.same("addGenerator, the greatest values", grid.addGenerator(1, 100, 200, 9, 9999), 1);
        Check.same("addGenerator, equal powers", grid.addGenerator(1, 100, 100, 0, 5), 2);
        for (int number = 3; number < 6; number++) {
            Check.same("addGenerator", grid.addGenerator(0, 1, 2, 3, 4), number);
        }
        for (int number = 0; number < 6; number++) {
            Check.same("state of a new generator", grid.state(number), 'o');
            Check.same("given of a new generator", grid.given(number), 0);
        }
        Check.same("fuel of the first one", grid.fuel(0), 0);
        Check.same("fuel of the second one", grid.fuel(1), 9999);
        Check.same("warm-up of the second one", grid.start(1), 9);
        grid.pass(9);
        Check.same("greatest power of the second one", grid.bound(1), 200);
        Check.same("least power of the second one", grid.given(1), 100);
        Check.same("no power at the other site", grid.bound(0), 0);
    }

    private static void promise14AddGeneratorRefuses() {
        Supplier<Islandgrid> scene = () -> Scenes.generator(1, 2, 0, 9);
        Check.refused("least power below", BAD_ARGUMENT, scene, g -> g.addGenerator(0, -1, 50, 0, 10));
        Check.refused("least power above", BAD_ARGUMENT, scene, g -> g.addGenerator(0, 101, 150, 0, 10));
        Check.refused("greatest power below", BAD_ARGUMENT, scene, g -> g.addGenerator(0, 0, 0, 0, 10));
        Check.refused("greatest power above", BAD_ARGUMENT, scene, g -> g.addGenerator(0, 0, 201, 0, 10));
        Check.refused("greatest power less than the least", BAD_ARGUMENT, scene,
                g -> g.addGenerator(0, 50, 49, 0, 10));
        Check.refused("both powers below", BAD_ARGUMENT, scene, g -> g.addGenerator(0, -2, -1, 0, 10));
        Check.refused("warm-up below", BAD_ARGUMENT, scene, g -> g.addGenerator(0, 1, 2, -1, 10));
        Check.refused("warm-up above", BAD_ARGUMENT, scene, g -> g.addGenerator(0, 1, 2, 10, 10));
        Check.refused("fuel below", BAD_ARGUMENT, scene, g -> g.addGenerator(0, 1, 2, 0, -1));
        Check.refused("fuel above", BAD_ARGUMENT, scene, g -> g.addGenerator(0, 1, 2, 0, 10000));
        Check.refused("no such site", NO_INDEX, scene, g -> g.addGenerator(2, 1, 2, 0, 10));
        Check.refused("a site below", NO_INDEX, scene, g -> g.addGenerator(-1, 1, 2, 0, 10));
        Check.refused("no such site, wrong power", NO_INDEX, scene, g -> g.addGenerator(2, -1, 2, 0, 10));
        Check.refused("a seventh one", BAD_STATE, Scenes::full, g -> g.addGenerator(0, 1, 2, 0, 10));
        Check.refused("a seventh one, wrong fuel", BAD_ARGUMENT, Scenes::full,
                g -> g.addGenerator(0, 1, 2, 0, -1));
        Check.refused("a seventh one, no such site", NO_INDEX, Scenes::full,
                g -> g.addGenerator(6, 1, 2, 0, 10));
    }

    private static void promise15Start() {
        Islandgrid grid = Scenes.generator(10, 50, 3, 10);
        Check.same("start", grid.start(0), 3);
        Check.same("state behind start", grid.state(0), 'w');
        Check.same("toGo behind start", grid.toGo(0), 3);
        Check.same("bound of what warms up", grid.bound(1), 0);
        grid.pass(2);
        Check.same("state behind two ticks", grid.state(0), 'w');
        grid.pass(1);
        Check.same("state behind three ticks", grid.state(0), 'r');
        Check.same("it gives in that tick", grid.given(0), 10);
        Islandgrid atOnce = Scenes.generator(10, 50, 0, 100);
        Check.same("start without a warm-up", atOnce.start(0), 0);
        Check.same("state without a warm-up", atOnce.state(0), 'r');
        Check.same("bound without a warm-up", atOnce.bound(1), 50);
        Check.same("start without fuel, least power 0", Scenes.generator(0, 50, 0, 0).start(0), 0);
    }

    private static void promise15StartRefuses() {
        Supplier<Islandgrid> warming = () -> {
            Islandgrid grid = Scenes.generator(10, 50, 3, 10);
            grid.start(0);
            return grid;
        };
        Check.refused("start of one that runs", BAD_STATE, Scenes::running, g -> g.start(0));
        Check.refused("start of one that warms up", BAD_STATE, warming, g -> g.start(0));
        Check.refused("start with too little fuel", NO_ELEMENT, () -> Scenes.generator(10, 50, 3, 9), g -> g.start(0));
        Check.refused("start of one that runs with too little fuel", BAD_STATE,
                Scenes::shortOfFuel, g -> g.start(0));
        Check.refused("start of no generator", NO_INDEX, Scenes::running, g -> g.start(1));
        Check.refused("start of one below", NO_INDEX, Scenes::full, g -> g.start(-1));
        Check.refused("start of one above", NO_INDEX, Scenes::full, g -> g.start(6));
    }

    private static void promise16Stop() {
        Islandgrid grid = Scenes.generator(10, 50, 2, 500);
        grid.start(0);
        grid.pass(1);
        Check.same("stop of one that warms up", grid.stop(0), 500);
        Check.same("state behind stop", grid.state(0), 'o');
        Check.same("start behind stop", grid.start(0), 2);
        Check.same("toGo behind stop", grid.toGo(0), 2);
        grid.pass(3);
        Check.same("stop of one that runs", grid.stop(0), 480);
        Check.same("bound behind stop", grid.bound(1), 0);
        Check.same("given behind stop", grid.given(0), 10);
        grid.pass(1);
        Check.same("fuel behind stop", grid.fuel(0), 480);
        Check.same("given in a tick behind stop", grid.given(0), 0);
        Check.refused("stop of one that is off", BAD_STATE, () -> Scenes.generator(1, 2, 3, 4), g -> g.stop(0));
        Check.refused("stop of one of many that is off", BAD_STATE, Scenes::full, g -> g.stop(5));
        Check.refused("stop of no generator", NO_INDEX, Scenes::running, g -> g.stop(1));
        Check.refused("stop of one below", NO_INDEX, Scenes::full, g -> g.stop(-1));
        Check.refused("stop of one above", NO_INDEX, Scenes::full, g -> g.stop(6));
    }

    private static void promise17StartNext() {
        Islandgrid grid = Scenes.row();
        grid.close(0);
        grid.addGenerator(0, 10, 50, 2, 100);
        grid.addGenerator(1, 10, 60, 1, 100);
        grid.addGenerator(0, 10, 70, 1, 10);
        grid.addGenerator(1, 0, 70, 1, 100);
        grid.addGenerator(1, 20, 99, 0, 19);
        grid.addGenerator(2, 10, 200, 0, 100);
        Check.same("the shortest warm-up, the greatest power, the lowest number", grid.startNext(1), 2);
        Check.same("its state", grid.state(2), 'w');
        Check.same("its warm-up", grid.toGo(2), 1);
        Check.same("of those that are off", grid.startNext(0), 3);
        Check.same("the greater power of the same warm-up", grid.startNext(0), 1);
        Check.same("the longer warm-up", grid.startNext(0), 0);
        Check.same("the one on another island", grid.startNext(2), 5);
        Check.same("it runs at once", grid.state(5), 'r');
        grid.refuel(4, 1);
        Check.same("as much fuel as the least power", grid.startNext(0), 4);
        grid.stop(0);
        grid.stop(3);
        Check.same("one that was stopped", grid.startNext(0), 3);
    }

    private static void promise17StartNextRefuses() {
        Supplier<Islandgrid> tooShort = () -> Scenes.generator(20, 99, 0, 19);
        Supplier<Islandgrid> other = () -> Scenes.generator(20, 99, 0, 100);
        Check.refused("startNext, too little fuel", NO_ELEMENT, tooShort, g -> g.startNext(1));
        Check.refused("startNext on another island", NO_ELEMENT, other, g -> g.startNext(0));
        Check.refused("startNext, it runs", NO_ELEMENT, Scenes::running, g -> g.startNext(0));
        Check.refused("startNext without a generator", NO_ELEMENT, () -> Scenes.sites(1), g -> g.startNext(0));
        Check.refused("startNext of no site", NO_INDEX, other, g -> g.startNext(2));
        Check.refused("startNext of a site below", NO_INDEX, Scenes::full, g -> g.startNext(-1));
        Check.refused("startNext of a site above", NO_INDEX, Scenes::full, g -> g.startNext(6));
    }

    /** Its generator has the fuel 99990. */
    private static Islandgrid almostFull() {
        Islandgrid grid = Scenes.generator(1, 2, 0, 9999);
        for (int time = 0; time < 9; time++) {
            grid.refuel(0, 9999);
        }
        return grid;
    }

    private static Islandgrid fullToTheBrim() {
        Islandgrid grid = almostFull();
        grid.refuel(0, 9);
        return grid;
    }

    private static void promise18Refuel() {
        Islandgrid grid = Scenes.generator(10, 50, 1, 0);
        Check.same("refuel by the least", grid.refuel(0, 1), 1);
        Check.same("refuel by the greatest", grid.refuel(0, 9999), 10000);
        Check.same("fuel behind refuel", grid.fuel(0), 10000);
        grid.start(0);
        Check.same("refuel of one that warms up", grid.refuel(0, 5), 10005);
        grid.pass(1);
        Check.same("refuel of one that runs", grid.refuel(0, 5), 10000);
        Check.same("refuel up to 99999", almostFull().refuel(0, 9), 99999);
        Check.refused("refuel above 99999", BAD_STATE, GeneratorsAndStoresTest::almostFull, g -> g.refuel(0, 10));
        Check.refused("refuel of a full one", BAD_STATE, GeneratorsAndStoresTest::fullToTheBrim,
                g -> g.refuel(0, 1));
        Check.refused("refuel by 0", BAD_ARGUMENT, Scenes::full, g -> g.refuel(0, 0));
        Check.refused("refuel by less", BAD_ARGUMENT, Scenes::full, g -> g.refuel(0, -5));
        Check.refused("refuel by 10000", BAD_ARGUMENT, Scenes::full, g -> g.refuel(0, 10000));
        Check.refused("refuel by 10000 above 99999", BAD_ARGUMENT, GeneratorsAndStoresTest::almostFull,
                g -> g.refuel(0, 10000));
        Check.refused("refuel by the greatest int", BAD_ARGUMENT, GeneratorsAndStoresTest::almostFull,
                g -> g.refuel(0, Integer.MAX_VALUE));
        Check.refused("refuel of no generator", NO_INDEX, Scenes::running, g -> g.refuel(1, 5));
        Check.refused("refuel of one below", NO_INDEX, Scenes::full, g -> g.refuel(-1, 5));
        Check.refused("refuel of one above, by 0", NO_INDEX, Scenes::full, g -> g.refuel(6, 0));
    }

    private static void promise19State() {
        Islandgrid grid = Scenes.generator(10, 50, 2, 25);
        Check.same("state at first", grid.state(0), 'o');
        grid.start(0);
        Check.same("state behind start", grid.state(0), 'w');
        grid.pass(1);
        Check.same("state behind one tick", grid.state(0), 'w');
        grid.pass(1);
        Check.same("state behind two ticks", grid.state(0), 'r');
        grid.pass(1);
        Check.same("state with the fuel 5, ahead of the next tick", grid.state(0), 'r');
        grid.pass(1);
        Check.same("state with too little fuel", grid.state(0), 'o');
        Check.same("fuel with too little fuel", grid.fuel(0), 5);
        Islandgrid exact = Scenes.generator(10, 50, 0, 20);
        exact.start(0);
        exact.pass(2);
        Check.same("state behind two ticks with just enough fuel", exact.state(0), 'r');
        Check.same("fuel behind these", exact.fuel(0), 0);
        exact.pass(1);
        Check.same("state without fuel", exact.state(0), 'o');
        Islandgrid idle = Scenes.generator(0, 50, 0, 0);
        idle.start(0);
        idle.pass(3);
        Check.same("state without fuel, least power 0", idle.state(0), 'r');
        Check.refused("state of no generator", NO_INDEX, Scenes::running, g -> g.state(1));
        Check.refused("state of one below", NO_INDEX, Scenes::full, g -> g.state(-1));
        Check.refused("state of one above", NO_INDEX, Scenes::full, g -> g.state(6));
    }

    private static void promise20Fuel() {
        Islandgrid grid = Scenes.running();
        Check.same("fuel at first", grid.fuel(0), 100);
        grid.pass(1);
        Check.same("fuel behind one tick", grid.fuel(0), 60);
        grid.pass(1);
        Check.same("fuel behind two ticks", grid.fuel(0), 20);
        grid.pass(1);
        Check.same("fuel behind three ticks", grid.fuel(0), 0);
        Check.refused("fuel of no generator", NO_INDEX, Scenes::running, g -> g.fuel(1));
        Check.refused("fuel of one below", NO_INDEX, Scenes::full, g -> g.fuel(-1));
        Check.refused("fuel of one above", NO_INDEX, Scenes::full, g -> g.fuel(6));
    }

    private static void promise21ToGo() {
        Islandgrid grid = Scenes.generator(10, 50, 9, 25);
        grid.start(0);
        for (int left = 9; left > 0; left--) {
            Check.same("toGo", grid.toGo(0), left);
            grid.pass(1);
        }
        Check.same("toGo behind the warm-up", Check.outcome(grid, g -> g.toGo(0)), "throws.NoSuchElementException");
        Check.refused("toGo of one that is off", NO_ELEMENT, () -> Scenes.generator(1, 2, 3, 4), g -> g.toGo(0));
        Check.refused("toGo of one that runs", NO_ELEMENT, Scenes::running, g -> g.toGo(0));
        Check.refused("toGo of one that was stopped", NO_ELEMENT, () -> {
            Islandgrid stopped = Scenes.generator(1, 2, 3, 4);
            stopped.start(0);
            stopped.stop(0);
            return stopped;
        }, g -> g.toGo(0));
        Check.refused("toGo of no generator", NO_INDEX, Scenes::running, g -> g.toGo(1));
        Check.refused("toGo of one below", NO_INDEX, Scenes::full, g -> g.toGo(-1));
        Check.refused("toGo of one above", NO_INDEX, Scenes::full, g -> g.toGo(6));
    }

    private static void promise22AddStore() {
        Islandgrid grid = Scenes.sites(2);
        Check.same("addStore, the least values", grid.addStore(0, 1, 1), 0);
        Check.same("addStore, the greatest values", grid.addStore(1, 999, 99), 1);
        Check.same("addStore, a rate above the capacity", grid.addStore(1, 10, 20), 2);
        Check.same("a fourth addStore", grid.addStore(0, 5, 5), 3);
        Check.same("a new store is empty", grid.charge(1), 0);
        Check.same("bound of empty stores", grid.bound(1), 0);
        Supplier<Islandgrid> scene = () -> Scenes.sites(2);
        Check.refused("capacity below", BAD_ARGUMENT, scene, g -> g.addStore(0, 0, 5));
        Check.refused("capacity above", BAD_ARGUMENT, scene, g -> g.addStore(0, 1000, 5));
        Check.refused("rate below", BAD_ARGUMENT, scene, g -> g.addStore(0, 5, 0));
        Check.refused("rate above", BAD_ARGUMENT, scene, g -> g.addStore(0, 5, 100));
        Check.refused("no such site", NO_INDEX, scene, g -> g.addStore(2, 5, 5));
        Check.refused("a site below", NO_INDEX, scene, g -> g.addStore(-1, 5, 5));
        Check.refused("no such site, wrong rate", NO_INDEX, scene, g -> g.addStore(2, 5, 0));
        Check.refused("a fifth store", BAD_STATE, Scenes::full, g -> g.addStore(0, 5, 5));
        Check.refused("a fifth store, wrong capacity", BAD_ARGUMENT, Scenes::full, g -> g.addStore(0, 0, 5));
        Check.refused("a fifth store, no such site", NO_INDEX, Scenes::full, g -> g.addStore(6, 5, 5));
    }

    private static void promise23Charge() {
        Islandgrid grid = Scenes.generator(30, 30, 0, 60);
        grid.addStore(1, 50, 20);
        grid.addStore(1, 999, 99);
        Check.same("charge at first", grid.charge(0), 0);
        grid.start(0);
        grid.pass(1);
        Check.same("charge by the rate", grid.charge(0), 20);
        Check.same("charge of the next one", grid.charge(1), 10);
        grid.pass(1);
        Check.same("charge behind two ticks", grid.charge(0), 40);
        grid.refuel(0, 30);
        grid.pass(1);
        Check.same("charge up to the capacity", grid.charge(0), 50);
        Check.same("charge of what is left", grid.charge(1), 40);
        Check.refused("charge of no store", NO_INDEX, Scenes::running, g -> g.charge(0));
        Check.refused("charge of one below", NO_INDEX, Scenes::full, g -> g.charge(-1));
        Check.refused("charge of one above", NO_INDEX, Scenes::full, g -> g.charge(4));
    }
}
