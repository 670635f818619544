import java.util.Random;

/** Runs of up to 512 calls by a fixed seed, on DuneMaps and on the Model: all answers are alike. */
public final class ModelTest {
    private static final int RUNS = 1500;
    private static final int[] ODD = {-1, 4, 5, 8, 9, 10, 13, 14, 61, 127, Integer.MIN_VALUE,
        Integer.MAX_VALUE};

    private final Check check = new Check();
    private final Random random;
    private final DuneMaps x = new DuneMaps();
    private final Model y = new Model();
    private final int run;
    private final StringBuilder told = new StringBuilder();

    private ModelTest(int run) {
        this.run = run;
        this.random = new Random(run * 7919L + 17);
    }

    public static void main(String[] args) {
        Check all = new Check();
        for (int run = 1; run <= RUNS && !all.hasFailed(); run++) {
            ModelTest test = new ModelTest(run);
            test.calls();
            all.so("run " + run, !test.check.hasFailed());
        }
        all.end("ModelTest");
    }

    private void calls() {
        int calls = 100 + random.nextInt(413);
        int i = 0;
        while (i < calls && !check.hasFailed()) {
            i += random.nextInt(12) == 0 ? text() : call();
        }
        due("digest()", x.digest(), y.digest());
        if (check.hasFailed()) {
            System.out.println("run " + run + ":" + told);
        }
    }

    private void due(String call, long got, long want) {
        told.append(' ').append(call).append(" = ").append(want).append(';');
        check.due(call, got, want);
    }

    /** A number below the bound, or now and then an odd one. */
    private int any(int bound) {
        return random.nextInt(14) == 0 ? ODD[random.nextInt(ODD.length)] : random.nextInt(bound);
    }

    private int letter(int code) {
        due("letter(" + code + ")", x.letter(code), y.letter(code));
        return 1;
    }

    /** A whole text and its reading; one in some has a slip. */
    private int text() {
        due("blank()", x.blank(), y.blank());
        boolean dunes = random.nextInt(4) == 0 || y.count(9) == 0;
        int steepest = 1 + random.nextInt(10);
        for (int cell = 0; cell < 8; cell++) {
            // HEIGHTS near those that are let who() find somebody.
            int near = Math.max(0, y.cell(cell, 0) + (random.nextInt(9) == 0 ? 1 : 0));
            letter('0' + (dunes || near > 9 ? random.nextInt(steepest) : near));
        }
        if (dunes) {
            letter(random.nextBoolean() ? '>' : '<');
        }
        if (random.nextInt(8) == 0) {
            letter("09:/<>= ".charAt(random.nextInt(8)));
        }
        due("fault(0)", x.fault(0), y.fault(0));
        due("fault(1)", x.fault(1), y.fault(1));
        if (dunes) {
            due("dunes()", x.dunes(), y.dunes());
        } else {
            due("was()", x.was(), y.was());
            due("who(0)", x.who(0), y.who(0));
        }
        return 14;
    }

    private int call() {
        int a = any(4);
        int b = any(8);
        int c = any(9);
        int d = any(2);
        int kind = any(5);
        int way = any(2);
        switch (random.nextInt(26)) {
            case 0: return letter(random.nextInt(6) == 0 ? any(128) : "0123456789<>".charAt(b & 7));
            case 1: due("blank()", x.blank(), y.blank()); return 1;
            case 2: due("fault(" + d + ")", x.fault(d), y.fault(d)); return 1;
            case 3: due("dunes()", x.dunes(), y.dunes()); return 1;
            case 4: due("cell(" + b + ", " + a + ")", x.cell(b, a), y.cell(b, a)); return 1;
            case 5: due("wind(" + (d == 1) + ")", x.wind(d == 1), y.wind(d == 1)); return 1;
            case 6: due("night()", x.night(), y.night()); return 1;
            case 7: case 8:
                due("walker(" + kind + ", " + b + ")", x.walker(kind, b), y.walker(kind, b));
                return 1;
            case 9: due("about(" + a + ", " + b + ")", x.about(a, b), y.about(a, b)); return 1;
            case 10: due("as(" + a + ", " + kind + ")", x.as(a, kind), y.as(a, kind)); return 1;
            case 11: case 12: case 13:
                due("step(" + a + ", " + way + ")", x.step(a, way), y.step(a, way));
                return 1;
            case 14: case 15: case 16:
                due("map(" + a + ", " + way + ", " + c + ")", x.map(a, way, c), y.map(a, way, c));
                return 1;
            case 17: due("go(" + a + ")", x.go(a), y.go(a)); return 1;
            case 18:
                c = d == 0 ? 0 : 10 + a;
                due("order(" + c + ")", x.order(c), y.order(c));
                return 1;
            case 19:
                due("feet(" + a + ", " + b + ", " + c + ", " + d + ")", x.feet(a, b, c, d),
                    y.feet(a, b, c, d));
                return 1;
            case 20: due("was()", x.was(), y.was()); return 1;
            case 21: due("who(" + d + ")", x.who(d), y.who(d)); return 1;
            case 22:
                c = any(62);
                b = random.nextInt() >>> random.nextInt(31);
                a = any(3);
                due("moons(" + c + ", " + b + ", " + a + ")", x.moons(c, b, a), y.moons(c, b, a));
                return 1;
            case 23: due("image()", x.image(), y.image()); return 1;
            case 24: due("restore()", x.restore(), y.restore()); return 1;
            default:
                c = any(12);
                due("count(" + c + ")", x.count(c), y.count(c));
                due("digest()", x.digest(), y.digest());
                return 2;
        }
    }
}
