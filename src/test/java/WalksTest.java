import java.util.ArrayList;
import java.util.Arrays;
import java.util.List;

/** Edges of WALKERS, STEPS, MAPS, ORDER and FEET; what would be is found by really going. */
public final class WalksTest {
    private static final int NONE = DuneMaps.NONE, UNKNOWN = DuneMaps.UNKNOWN;
    private static final int OUTSIDE = DuneMaps.OUTSIDE, STATE = DuneMaps.STATE;
    private static final int FULL = DuneMaps.FULL;
    private static final int WALKER = 0, CAMEL = 1, BRIDE = 2, GUIDE = 3, CARAVAN = 4;
    private static final int BACK = 0, ON = 1;
    private static final String HILLS = "41605270>";

    private static final Check CHECK = new Check();

    public static void main(String[] args) {
        everyKindOnEveryCell();
        onlyACaravanIsACamelToo();
        fourAreTheMost();
        fourOnOneCell();
        numbersThatNameNobody();
        stepsRoundTheRing();
        mapsOfEveryLength();
        mapsNextToTheirBounds();
        mapsAreGoodAsFarAsTheyTell();
        onlyTheLatestMapCounts();
        goingRoundTheRing();
        goingWithoutAMap();
        ordersFromNoneToFour();
        ordersAsIfTheyWent();
        ordersThatAreTurnedRound();
        feetFromNoneToEight();
        feetAcrossTheRing();
        feetOfEveryHeight();
        feetAsIfHeWent();
        CHECK.end("WalksTest");
    }

    private static void due(String what, long got, long want) {
        CHECK.due(what, got, want);
    }

    private static DuneMaps with(String dunes, int kind, int cell) {
        return Check.with(dunes, kind, cell);
    }

    private static void everyKindOnEveryCell() {
        for (int kind = 0; kind <= 4; kind++) {
            for (int cell = 0; cell <= 7; cell++) {
                DuneMaps x = Check.with(HILLS);
                due("9 the first one's number", x.walker(kind, cell), 0);
                due("10 KIND", x.about(0, 0), kind);
                due("10 CELL", x.about(0, 1), cell);
                due("6 he is there", x.cell(cell, 2), 1);
                due("11 all are WALKERS", x.as(0, WALKER), 0);
                due("11 he is of his KIND", x.as(0, kind), 0);
                due("22 one", x.count(2), 1);
            }
        }
        due("9 KIND too small", Check.with(HILLS).walker(-1, 0), OUTSIDE);
        due("9 KIND too large", Check.with(HILLS).walker(5, 0), OUTSIDE);
        due("9 CELL too small", Check.with(HILLS).walker(0, -1), UNKNOWN);
        due("9 CELL too large", Check.with(HILLS).walker(0, 8), UNKNOWN);
        due("9 no DUNES, no CELLS", new DuneMaps().walker(0, 0), UNKNOWN);
    }

    private static void onlyACaravanIsACamelToo() {
        for (int kind = 0; kind <= 4; kind++) {
            DuneMaps x = with(HILLS, kind, 0);
            for (int as = 1; as <= 4; as++) {
                boolean such = as == kind || as == CAMEL && kind == CARAVAN;
                due("11 KIND " + kind + " as " + as, x.as(0, as), such ? 0 : NONE);
            }
            due("11 KIND too small", x.as(0, -1), OUTSIDE);
            due("11 KIND too large", x.as(0, 5), OUTSIDE);
        }
    }

    private static void fourAreTheMost() {
        DuneMaps x = Check.with(HILLS);
        for (int number = 0; number < 4; number++) {
            due("22 so many ahead of him", x.count(2), number);
            due("9 his number", x.walker(number, number), number);
        }
        due("9 a fifth", x.walker(CARAVAN, 7), FULL);
        due("9 a fifth, once more", x.walker(WALKER, 0), FULL);
        due("22 four", x.count(2), 4);
        due("6 the fifth is nowhere", x.cell(7, 2), 0);
        for (int number = 0; number < 4; number++) {
            due("10 the four are as they came", x.about(number, 0), number);
        }
        due("10 the fifth has no number", x.about(4, 0), UNKNOWN);
        Check.write(x, HILLS);
        x.dunes();
        due("9 on other DUNES there is room again", x.walker(CARAVAN, 7), 0);
    }

    private static void fourOnOneCell() {
        for (int cell = 0; cell <= 7; cell++) {
            DuneMaps x = Check.with(HILLS);
            for (int n = 0; n < 4; n++) {
                due("6 so many are there", x.cell(cell, 2), n);
                x.walker(BRIDE, cell);
            }
            due("6 four on one", x.cell(cell, 2), 4);
            x.step(1, ON);
            due("6 three stay", x.cell(cell, 2), 3);
            due("6 one is on the next", x.cell((cell + 1) % 8, 2), 1);
            due("6 none on that behind", x.cell((cell + 7) % 8, 2), 0);
        }
    }

    /** With n WALKERS the last number that names one is n - 1. */
    private static void numbersThatNameNobody() {
        for (int n = 0; n <= 4; n++) {
            DuneMaps x = Check.with(HILLS);
            for (int i = 0; i < n; i++) {
                x.walker(BRIDE, 0);
                x.map(i, ON, 1);
            }
            for (int number = -1; number <= 5; number++) {
                boolean named = number >= 0 && number < n;
                due("10 about", x.about(number, 0), named ? BRIDE : UNKNOWN);
                due("11 as", x.as(number, 0), named ? number : UNKNOWN);
                due("16 feet", x.feet(number, 3, 9, 0), named ? 0 : UNKNOWN);
                due("12 step", x.step(number, ON), named ? 0 : UNKNOWN);
                due("13 map", x.map(number, ON, 1), named ? 6 : UNKNOWN);
                due("14 go", x.go(number), named ? 1 : UNKNOWN);
            }
        }
    }

    private static void stepsRoundTheRing() {
        for (int from = 0; from <= 7; from++) {
            DuneMaps x = with("55555555>", CARAVAN, from);
            for (int i = 1; i <= 9; i++) {
                due("12 level sand does not move", x.step(0, ON), 0);
                due("12 on from " + from, x.about(0, 1), (from + i) % 8);
            }
            for (int i = 8; i >= -8; i--) {
                x.step(0, BACK);
                due("12 back to " + from + " and behind it", x.about(0, 1), (from + i + 8) % 8);
            }
            due("10 STEPS that he went", x.about(0, 3), 26);
            due("22 STEPS that all went", x.count(6), 26);
        }
    }

    private static int sumAlong(int[] heights, int from, int way, int steps) {
        int sum = 0;
        for (int i = 1; i <= steps; i++) {
            sum += heights[(from + (way == ON ? i : 8 - i)) % 8];
        }
        return sum;
    }

    private static void mapsOfEveryLength() {
        int[] heights = {4, 1, 6, 0, 5, 2, 7, 3};
        for (int from = 0; from <= 7; from++) {
            for (int way = BACK; way <= ON; way++) {
                DuneMaps x = with("41605273>", CAMEL, from);
                for (int steps = 1; steps <= 8; steps++) {
                    due("13 from " + from + ", way " + way + ", steps " + steps,
                        x.map(0, way, steps), sumAlong(heights, from, way, steps));
                    due("10 its WAY", x.about(0, 6), way);
                    due("10 its STEPS", x.about(0, 7), steps);
                    due("10 it is GOOD when it is drawn", x.about(0, 5), 1);
                    due("22 one MAP", x.count(3), 1);
                    due("22 one that is GOOD", x.count(4), 1);
                }
            }
        }
    }

    private static void mapsNextToTheirBounds() {
        DuneMaps x = with(HILLS, CAMEL, 0);
        due("13 no STEPS", x.map(0, ON, 0), OUTSIDE);
        due("13 nine STEPS", x.map(0, ON, 9), OUTSIDE);
        due("13 WAY too small", x.map(0, -1, 1), OUTSIDE);
        due("13 WAY too large", x.map(0, 2, 1), OUTSIDE);
        due("13 none is drawn", x.count(3), 0);
        due("10 he has none", x.about(0, 4), 0);
        due("10 no WAY", x.about(0, 6), NONE);
        due("10 no STEPS", x.about(0, 7), NONE);
        x.map(0, BACK, 8);
        due("13 nine STEPS instead of eight", x.map(0, ON, 9), OUTSIDE);
        due("13 the earlier one's WAY stays", x.about(0, 6), BACK);
        due("13 the earlier one's STEPS stay", x.about(0, 7), 8);
    }

    /** In a NIGHT a CREST and its LEE change; a MAP that leads to neither of them stays GOOD. */
    private static void mapsAreGoodAsFarAsTheyTell() {
        for (int from = 0; from <= 7; from++) {
            for (int way = BACK; way <= ON; way++) {
                for (int steps = 1; steps <= 8; steps++) {
                    DuneMaps x = with("00090000>", WALKER, from);
                    x.map(0, way, steps);
                    x.night();
                    int[] changed = {0, 0, 0, 1, 1, 0, 0, 0};
                    int good = sumAlong(changed, from, way, steps) == 0 ? 1 : 0;
                    String what = "from " + from + ", way " + way + ", steps " + steps;
                    due("10 GOOD " + what, x.about(0, 5), good);
                    due("22 GOOD " + what, x.count(4), good);
                    due("15 GOOD " + what, x.order(0), good);
                    due("14 GOOD " + what, x.go(0), good);
                }
            }
        }
    }

    private static void onlyTheLatestMapCounts() {
        DuneMaps x = with("00090000>", WALKER, 1);
        x.map(0, ON, 8);
        x.map(0, ON, 1);
        x.night();
        due("13 a shorter one tells no more of what lies behind", x.about(0, 5), 1);
        x.map(0, ON, 8);
        due("13 a longer one tells what is now", x.about(0, 5), 1);
        x.night();
        due("13 until the next NIGHT", x.about(0, 5), 0);
        x.map(0, BACK, 2);
        due("13 the other WAY", x.about(0, 5), 1);
        due("22 one MAP all the while", x.count(3), 1);
        due("14 he goes by the latest", x.go(0), 1);
        due("14 its WAY, its STEPS", x.about(0, 1), 7);
        due("10 only its STEPS", x.about(0, 3), 2);
    }

    private static void goingRoundTheRing() {
        for (int from = 0; from <= 7; from++) {
            for (int steps = 1; steps <= 8; steps++) {
                for (int way = BACK; way <= ON; way++) {
                    DuneMaps x = with(HILLS, CARAVAN, from);
                    DuneMaps y = with(HILLS, CARAVAN, from);
                    x.map(0, way, steps);
                    due("14 GOOD", x.go(0), 1);
                    for (int i = 0; i < steps; i++) {
                        y.step(0, way);
                    }
                    due("14 as by so many STEPS", x.digest(), y.digest());
                    due("14 where he is", x.about(0, 1),
                        (from + (way == ON ? steps : 8 - steps)) % 8);
                    due("14 STEPS that he went", x.about(0, 3), steps);
                }
            }
        }
    }

    private static void goingWithoutAMap() {
        DuneMaps x = with(HILLS, CARAVAN, 1);
        x.walker(CAMEL, 1);
        due("14 he has none", x.go(0), STATE);
        x.map(1, ON, 1);
        due("14 the other's is not his", x.go(0), STATE);
        due("14 the other's", x.go(1), 1);
        due("14 it is gone then", x.go(1), STATE);
        due("10 it is gone then", x.about(1, 4), 0);
        due("22 it is gone then", x.count(3), 0);
        due("10 one STEP by it", x.about(1, 3), 1);
        x.map(1, ON, 1);
        due("14 a new one", x.go(1) >= 0 ? 1 : 0, 1);
    }

    private static void ordersFromNoneToFour() {
        for (int maps = 0; maps < 16; maps++) {
            DuneMaps x = Check.with(HILLS);
            List<Integer> goers = new ArrayList<>();
            for (int i = 0; i < 4; i++) {
                x.walker(BRIDE, i);
                if ((maps >> i & 1) == 1) {
                    x.map(i, ON, 8);
                    goers.add(i);
                }
            }
            due("15 brides' MAPS all hold", x.order(0), goers.size());
            for (int turn = 0; turn < 4; turn++) {
                due("15 turn " + turn + " of MAPS " + maps, x.order(10 + turn),
                    turn < goers.size() ? goers.get(turn) : NONE);
            }
        }
        DuneMaps none = Check.with(HILLS);
        due("15 no WALKERS, none holds", none.order(0), 0);
        due("15 no WALKERS, nobody goes", none.order(10), NONE);
        due("15 no WALKERS, no fourth", none.order(13), NONE);
    }

    /** Four on their CELLS with MAPS drawn one behind the other; then maybe one has walked. */
    private static DuneMaps caravan(int seed) {
        DuneMaps x = Check.with(seed % 2 == 0 ? "30527164>" : "07092031<");
        for (int i = 0; i < 4; i++) {
            x.walker((seed / 2 + i * (1 + seed % 3)) % 5, (seed / 7 + i * 3) % 8);
            if (seed % 5 != i) {
                x.map(i, (seed >> i) % 2, 1 + (seed / 3 + i * 5) % 8);
            }
        }
        if (seed % 11 == 0) {
            x.step(seed % 4, ON);
        }
        return x;
    }

    private static void allOrders(List<Integer> head, List<Integer> goers, List<List<Integer>> all) {
        if (head.size() == goers.size()) {
            all.add(head);
            return;
        }
        for (int goer : goers) {
            if (!head.contains(goer)) {
                List<Integer> longer = new ArrayList<>(head);
                longer.add(goer);
                allOrders(longer, goers, all);
            }
        }
    }

    private static void ordersAsIfTheyWent() {
        for (int seed = 0; seed < 300; seed++) {
            DuneMaps x = caravan(seed);
            List<Integer> goers = new ArrayList<>();
            for (int i = 0; i < 4; i++) {
                if (x.about(i, 4) == 1) {
                    goers.add(i);
                }
            }
            List<List<Integer>> all = new ArrayList<>();
            allOrders(new ArrayList<>(), goers, all);
            int most = -1;
            List<Integer> best = List.of();
            for (List<Integer> order : all) {
                DuneMaps y = caravan(seed);
                int good = order.stream().mapToInt(y::go).sum();
                if (good > most) {
                    most = good;
                    best = order;
                }
            }
            due("15 most that hold, " + seed, x.order(0), most);
            for (int turn = 0; turn < 4; turn++) {
                due("15 turn " + turn + ", " + seed, x.order(10 + turn),
                    turn < best.size() ? best.get(turn) : NONE);
            }
        }
    }

    /** 0 spoils what 1 is told of CELL 0, 1 what 2 is of CELL 1, and 2 what 3 is of CELL 2. */
    private static void ordersThatAreTurnedRound() {
        DuneMaps x = Check.with("15043703>");
        int[] kinds = {CARAVAN, GUIDE, WALKER, GUIDE};
        int[] cells = {6, 1, 2, 1};
        int[] ways = {ON, BACK, BACK, ON};
        for (int i = 0; i < 4; i++) {
            x.walker(kinds[i], cells[i]);
            x.map(i, ways[i], 1);
        }
        due("15 all hold by the last order of all", x.order(0), 4);
        for (int turn = 0; turn < 4; turn++) {
            due("15 turned round, turn " + turn, x.order(10 + turn), 3 - turn);
        }
        x.image();
        // Behind 0 the HOLLOW that 1 goes to is none any more: he moves nothing, and 2's holds.
        int[] byNumbers = {1, 0, 1, 0};
        for (int i = 0; i < 4; i++) {
            due("15 by numbers not all hold: " + i, x.go(i), byNumbers[i]);
        }
        x.restore();
        for (int i = 3; i >= 0; i--) {
            due("15 turned round all hold: " + i, x.go(i), 1);
        }
    }

    /** From beside the CREST the first STEP treads it, and each second one again. */
    private static void feetFromNoneToEight() {
        int[] few = {0, 1, 3, 5, 7, NONE};
        int[] which = {0, 0b1, 0b101, 0b10101, 0b1010101, NONE};
        for (int loss = 0; loss <= 5; loss++) {
            DuneMaps x = with("00009000>", GUIDE, 3);
            due("16 how few from beside, " + loss, x.feet(0, 4, 9 - loss, 0), few[loss]);
            due("16 which from beside, " + loss, x.feet(0, 4, 9 - loss, 1), which[loss]);
        }
        DuneMaps x = with("00009000>", GUIDE, 3);
        for (int i = 0; i < 9; i++) {
            x.step(0, i % 2 == 0 ? ON : BACK);
        }
        due("16 nine STEPS would do, eight do not", x.cell(4, 0), 4);
        x = with("00009000>", GUIDE, 4);
        due("16 eight STEPS are taken", x.feet(0, 4, 5, 0), 8);
        due("16 eight STEPS, which", x.feet(0, 4, 5, 1), 0b10101010);
        due("16 no STEP is wanted", x.feet(0, 3, 0, 0), 0);
        due("16 no STEP is wanted, which", x.feet(0, 3, 0, 1), 0);
        due("16 a BRIDE moves nothing", with("00009000>", BRIDE, 3).feet(0, 4, 8, 0), NONE);
        due("16 a BRIDE, which", with("00009000>", BRIDE, 3).feet(0, 4, 8, 1), NONE);
    }

    /** From four CELLS away both WAYS are like ones: back comes first. */
    private static void feetAcrossTheRing() {
        for (int from = 0; from <= 7; from++) {
            for (int away = 0; away <= 7; away++) {
                int goal = (from + away) % 8;
                int[] heights = new int[8];
                heights[goal] = 5;
                DuneMaps x = with(Check.digits(heights) + ">", CARAVAN, from);
                int few = away == 0 ? 2 : Math.min(away, 8 - away);
                int which = away == 0 ? 0b10 : away < 4 ? (1 << away) - 1 : 0;
                due("16 how few from " + from + " to " + goal, x.feet(0, goal, 1, 0), few);
                due("16 which from " + from + " to " + goal, x.feet(0, goal, 1, 1), which);
            }
        }
    }

    private static void feetOfEveryHeight() {
        DuneMaps x = with("00009000>", CARAVAN, 3);
        for (int height = 0; height <= 9; height++) {
            due("16 no HIGHER than " + height, x.feet(0, 4, height, 0),
                height == 9 ? 0 : height >= 5 ? 1 : height >= 1 ? 3 : NONE);
        }
        due("16 HEIGHT too small", x.feet(0, 4, -1, 0), OUTSIDE);
        due("16 HEIGHT too large", x.feet(0, 4, 10, 0), OUTSIDE);
        due("16 CELL too small", x.feet(0, -1, 9, 0), UNKNOWN);
        due("16 CELL too large", x.feet(0, 8, 9, 0), UNKNOWN);
    }

    private static DuneMaps wanderer(int seed) {
        String dunes = seed % 2 == 0 ? "30527164>" : "50092031<";
        return with(dunes, seed % 5, seed / 5 % 8);
    }

    /** The fewest STEPS and the first of them, found by really going every path. */
    private static void feetAsIfHeWent() {
        for (int seed = 0; seed < 80; seed++) {
            DuneMaps x = wanderer(seed);
            int[][] few = new int[8][10];
            int[][] which = new int[8][10];
            for (int cell = 0; cell < 8; cell++) {
                Arrays.fill(few[cell], NONE);
                Arrays.fill(which[cell], NONE);
            }
            for (int steps = 0; steps <= 8; steps++) {
                for (int path = 0; path < 1 << steps; path++) {
                    walkPath(seed, steps, path, few, which);
                }
            }
            for (int all = 0; all < 80; all++) {
                int cell = all / 10;
                int height = all % 10;
                String what = "seed " + seed + ", cell " + cell + ", height " + height;
                due("16 how few, " + what, x.feet(0, cell, height, 0), few[cell][height]);
                due("16 which, " + what, x.feet(0, cell, height, 1), which[cell][height]);
            }
        }
    }

    /** The first STEP is the highest bit of path, so that counting up goes STEP by STEP. */
    private static void walkPath(int seed, int steps, int path, int[][] few, int[][] which) {
        DuneMaps y = wanderer(seed);
        int bits = 0;
        for (int i = 0; i < steps; i++) {
            int way = path >> (steps - 1 - i) & 1;
            y.step(0, way);
            bits |= way << i;
        }
        for (int cell = 0; cell < 8; cell++) {
            for (int height = y.cell(cell, 0); height <= 9; height++) {
                if (few[cell][height] == NONE) {
                    few[cell][height] = steps;
                    which[cell][height] = bits;
                }
            }
        }
    }
}
