import java.util.Arrays;
import java.util.TreeSet;

/**
 * Every call with the numbers about each bound in every place, in several states: of several
 * refusals the first as told answers, and neither a refused call nor one that only asks changes
 * anything.
 */
public final class RefusalsTest {
    private static final int UNKNOWN = DuneMaps.UNKNOWN, OUTSIDE = DuneMaps.OUTSIDE;
    private static final int STATE = DuneMaps.STATE, FULL = DuneMaps.FULL;
    private static final int TAKEN = 0;
    private static final int LEAST_REFUSAL = -104, LAST_REFUSAL = -101;
    private static final String DUNES = "41605270>", HEIGHTS = "41605270";
    private static final String FULL_PAGE = "41605270>123";

    private static final Check CHECK = new Check();

    private interface Call {
        long on(DuneMaps x);
    }

    /** What an object has been brought to. */
    private enum Scene {
        NEW("", false, 0, 0, false, false),
        WHOLE_PAGE(DUNES, false, 0, 0, false, false),
        ONLY_A_FULL_PAGE(FULL_PAGE, false, 0, 0, false, false),
        ONLY_DUNES("", true, 0, 0, false, false),
        ONE_WALKER(HEIGHTS, true, 1, 0, false, true),
        TWO_OF_THREE_MAPS("x", true, 3, 0b101, true, false),
        ALL_FULL(FULL_PAGE, true, 4, 0b1111, true, true),
        NO_MAPS(DUNES, true, 4, 0, true, true);

        final String page;
        final boolean hasDunes;
        final int walkers;
        final int maps;
        final boolean told;
        final boolean imaged;

        Scene(String page, boolean hasDunes, int walkers, int maps, boolean told, boolean imaged) {
            this.page = page;
            this.hasDunes = hasDunes;
            this.walkers = walkers;
            this.maps = maps;
            this.told = told;
            this.imaged = imaged;
        }

        DuneMaps make() {
            DuneMaps x = hasDunes ? Check.with(DUNES) : new DuneMaps();
            for (int i = 0; i < walkers; i++) {
                x.walker(4 - i, 2 * i + 1);
                if (imaged && i == 0) {
                    x.map(0, 0, 5);
                    x.image();
                    x.night();
                }
                x.step(i, i & 1);
            }
            for (int i = 0; i < walkers; i++) {
                if ((maps >> i & 1) == 1) {
                    x.map(i, i & 1, 8 - i);
                } else if (x.about(i, 4) == 1) {
                    x.go(i);
                }
            }
            if (told) {
                Check.write(x, "52605250");
                x.was();
            }
            Check.write(x, page);
            return x;
        }

        int refusesWalker(int walker) {
            return when(walker < 0 || walker >= walkers, UNKNOWN);
        }

        int refusesCell(int cell) {
            return when(!hasDunes || cell < 0 || cell > 7, UNKNOWN);
        }

        int needsDunes() {
            return when(!hasDunes, STATE);
        }
    }

    private final Scene scene;
    private final long[] untouched;

    private RefusalsTest(Scene scene) {
        this.scene = scene;
        this.untouched = allThatCanBeSeen(scene.make());
    }

    public static void main(String[] args) {
        for (Scene scene : Scene.values()) {
            RefusalsTest test = new RefusalsTest(scene);
            test.texts();
            test.whatNeedsDunes();
            test.cells();
            test.walkers();
            test.steps();
            test.maps();
            test.orders();
            test.feet();
            test.dusk();
            test.moons();
            test.counts();
        }
        CHECK.end("RefusalsTest");
    }

    private static int when(boolean refused, int refusal) {
        return refused ? refusal : TAKEN;
    }

    private static int outside(int number, int from, int to) {
        return when(number < from || number > to, OUTSIDE);
    }

    private static int first(int... refusals) {
        for (int refusal : refusals) {
            if (refusal != TAKEN) {
                return refusal;
            }
        }
        return TAKEN;
    }

    /** On each side the last number that is taken and the first that is refused, and the utmost. */
    private static Iterable<Integer> about(int from, int to) {
        return new TreeSet<>(Arrays.asList(
            Integer.MIN_VALUE, from - 1, from, to, to + 1, Integer.MAX_VALUE));
    }

    /**
     * A row of answers in which any change would be seen: also what the IMAGE keeps, what the MAPS
     * tell, and which HEIGHTS that were are told. It uses the object up.
     */
    private static long[] allThatCanBeSeen(DuneMaps x) {
        return new long[] {
            x.digest(), x.fault(0), x.fault(1), x.moons(60, 7, 0), x.moons(60, 7, 1),
            x.feet(0, 2, 1, 1), x.feet(3, 5, 1, 1),
            x.restore(), x.digest(), x.step(0, 1), x.step(0, 0), x.go(0), x.digest(), x.restore(),
            x.go(3), x.digest(), x.go(2), x.go(1), x.go(0), x.digest(), x.night(), x.digest(),
            x.walker(3, 4), x.digest(), x.dunes(), x.was(), x.digest(), x.blank(), x.digest()};
    }

    private DuneMaps answered(String call, Call made, int refusal) {
        DuneMaps x = scene.make();
        long answer = made.on(x);
        boolean refused = answer >= LEAST_REFUSAL && answer <= LAST_REFUSAL;
        CHECK.due(scene + ": " + call + ", the refusal", refused ? answer : TAKEN, refusal);
        return x;
    }

    private void unchanged(String call, DuneMaps x) {
        CHECK.so(scene + ": " + call + " changes nothing",
            Arrays.equals(allThatCanBeSeen(x), untouched));
    }

    /** A call that changes what is, unless it is refused. */
    private void does(String call, Call made, int refusal) {
        DuneMaps x = answered(call, made, refusal);
        if (refusal != TAKEN) {
            unchanged(call, x);
        }
    }

    private void asks(String call, Call made, int refusal) {
        unchanged(call, answered(call, made, refusal));
    }

    private void texts() {
        for (int code : about(1, 126)) {
            does("letter(" + code + ")", x -> x.letter(code),
                first(outside(code, 1, 126), when(scene.page.length() == 12, FULL)));
        }
        does("blank()", DuneMaps::blank, TAKEN);
        for (int sort : about(0, 1)) {
            asks("fault(" + sort + ")", x -> x.fault(sort), outside(sort, 0, 1));
        }
        does("dunes()", DuneMaps::dunes, when(!scene.page.equals(DUNES), STATE));
    }

    private void whatNeedsDunes() {
        does("wind(true)", x -> x.wind(true), scene.needsDunes());
        does("wind(false)", x -> x.wind(false), scene.needsDunes());
        does("night()", DuneMaps::night, scene.needsDunes());
        does("image()", DuneMaps::image, scene.needsDunes());
        does("restore()", DuneMaps::restore, when(!scene.imaged, STATE));
    }

    private void cells() {
        for (int cell : about(0, 7)) {
            for (int what : about(0, 2)) {
                asks("cell(" + cell + ", " + what + ")", x -> x.cell(cell, what),
                    first(scene.refusesCell(cell), outside(what, 0, 2)));
            }
        }
    }

    private void walkers() {
        for (int kind : about(0, 4)) {
            for (int cell : about(0, 7)) {
                does("walker(" + kind + ", " + cell + ")", x -> x.walker(kind, cell),
                    first(outside(kind, 0, 4), scene.refusesCell(cell),
                        when(scene.walkers == 4, FULL)));
            }
        }
        for (int walker : about(0, scene.walkers - 1)) {
            for (int what : about(0, 7)) {
                asks("about(" + walker + ", " + what + ")", x -> x.about(walker, what),
                    first(scene.refusesWalker(walker), outside(what, 0, 7)));
            }
            for (int kind : about(0, 4)) {
                asks("as(" + walker + ", " + kind + ")", x -> x.as(walker, kind),
                    first(scene.refusesWalker(walker), outside(kind, 0, 4)));
            }
        }
    }

    private void steps() {
        for (int walker : about(0, scene.walkers - 1)) {
            for (int way : about(0, 1)) {
                does("step(" + walker + ", " + way + ")", x -> x.step(walker, way),
                    first(scene.refusesWalker(walker), outside(way, 0, 1)));
            }
        }
        for (int walker = -1; walker <= 4; walker++) {
            int one = walker;
            does("go(" + one + ")", x -> x.go(one), first(scene.refusesWalker(one),
                when((scene.maps >> one & 1) == 0, STATE)));
        }
    }

    private void maps() {
        for (int walker : about(0, scene.walkers - 1)) {
            for (int way : about(0, 1)) {
                for (int steps : about(1, 8)) {
                    does("map(" + walker + ", " + way + ", " + steps + ")",
                        x -> x.map(walker, way, steps), first(scene.refusesWalker(walker),
                            outside(way, 0, 1), outside(steps, 1, 8)));
                }
            }
        }
    }

    private void orders() {
        TreeSet<Integer> numbers = new TreeSet<>(Arrays.asList(-10, 1, 9, 10, 11, 12, 13, 14));
        about(0, 0).forEach(numbers::add);
        for (int what : numbers) {
            boolean known = what == 0 || what >= 10 && what <= 13;
            asks("order(" + what + ")", x -> x.order(what),
                first(when(!known, OUTSIDE), scene.needsDunes()));
        }
    }

    private void feet() {
        for (int walker : about(0, scene.walkers - 1)) {
            for (int cell : about(0, 7)) {
                for (int height : about(0, 9)) {
                    for (int what : about(0, 1)) {
                        asks("feet(" + walker + ", " + cell + ", " + height + ", " + what + ")",
                            x -> x.feet(walker, cell, height, what),
                            first(scene.refusesWalker(walker), scene.refusesCell(cell),
                                outside(height, 0, 9), outside(what, 0, 1)));
                    }
                }
            }
        }
    }

    private void dusk() {
        boolean readable = scene.hasDunes && scene.page.equals(HEIGHTS);
        does("was()", DuneMaps::was, when(!readable, STATE));
        for (int what : about(0, 1)) {
            asks("who(" + what + ")", x -> x.who(what),
                first(outside(what, 0, 1), when(!scene.told, STATE)));
        }
    }

    private void moons() {
        for (int nights : about(1, 60)) {
            for (int seed : about(0, Integer.MAX_VALUE)) {
                for (int what : about(0, 2)) {
                    asks("moons(" + nights + ", " + seed + ", " + what + ")",
                        x -> x.moons(nights, seed, what),
                        first(outside(nights, 1, 60), outside(seed, 0, Integer.MAX_VALUE),
                            outside(what, 0, 2), scene.needsDunes()));
                }
            }
        }
    }

    private void counts() {
        for (int what : about(0, 10)) {
            asks("count(" + what + ")", x -> x.count(what), outside(what, 0, 10));
        }
        DuneMaps x = scene.make();
        x.digest();
        unchanged("digest()", x);
    }
}
