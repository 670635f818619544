import java.util.Arrays;

/** Edges of texts and of sand: what a text may have, the ring's end, CRESTS, HOLLOWS, NIGHTS. */
public final class SandTest {
    private static final int NONE = DuneMaps.NONE, OUTSIDE = DuneMaps.OUTSIDE;
    private static final int STATE = DuneMaps.STATE, FULL = DuneMaps.FULL;
    private static final int WALKER = 0, GUIDE = 3;
    private static final int BACK = 0, ON = 1;
    private static final int[] WEIGHTS = {1, 2, 0, 1, 4};
    private static final String WHOLE = "01234567>", LONGEST = "01234567>890";

    private static final Check CHECK = new Check();

    public static void main(String[] args) {
        everyCode();
        twelveLettersAreTheMost();
        pageIsEmptyThen();
        faultAtEveryPlace();
        faultBehindTheEnd();
        onlyTheFirstFaultIsTold();
        onlyNineLettersAreDunes();
        onlyEightLettersAreHeights();
        signsBesideThoseThatAreTaken();
        leastAndHighestSum();
        everyShape();
        crestsFromNoneToFour();
        crestsLoseNoMoreThanTheyHave();
        hollowsGetNoMoreThanThatHas();
        levelCellsStay();
        heightsAboveNine();
        nightsOverTheRing();
        nightsAllAtOnce();
        nightsLoseNoSand();
        windBothWays();
        CHECK.end("SandTest");
    }

    private static void due(String what, long got, long want) {
        CHECK.due(what, got, want);
    }

    private static DuneMaps page(String text) {
        DuneMaps x = new DuneMaps();
        Check.write(x, text);
        return x;
    }

    /** Eight like HEIGHTS as a row to be changed. */
    private static int[] level(int height) {
        int[] heights = new int[8];
        Arrays.fill(heights, height);
        return heights;
    }

    private static DuneMaps with(int[] heights, int wind) {
        return Check.with(Check.digits(heights) + (wind == ON ? '>' : '<'));
    }

    private static int beside(int cell, int way) {
        if (way == ON) {
            return cell == 7 ? 0 : cell + 1;
        }
        return cell == 0 ? 7 : cell - 1;
    }

    private static int other(int way) {
        return way == ON ? BACK : ON;
    }

    private static void everyCode() {
        for (int code = 1; code <= 126; code++) {
            due("2 letter(" + code + ") is taken", new DuneMaps().letter(code), 1);
        }
        due("2 too small", new DuneMaps().letter(0), OUTSIDE);
        due("2 too large", new DuneMaps().letter(127), OUTSIDE);
        due("2 a code of more than seven bits", new DuneMaps().letter(128 + '0'), OUTSIDE);
        due("2 a code of more than sixteen bits", new DuneMaps().letter(65536 + '0'), OUTSIDE);
    }

    private static void twelveLettersAreTheMost() {
        DuneMaps x = new DuneMaps();
        for (int n = 1; n <= 12; n++) {
            due("2 how many THE PAGE has", x.letter('7'), n);
            due("2 count tells as many", x.count(8), n);
        }
        due("2 above 12", x.letter('7'), FULL);
        due("2 above 12, once more", x.letter('7'), FULL);
        due("3 full, emptied", x.blank(), 12);
        due("3 there is room again", x.letter('7'), 1);
    }

    private static void pageIsEmptyThen() {
        due("3 none to take away", new DuneMaps().blank(), 0);
        for (int n = 1; n <= 12; n++) {
            DuneMaps x = page(LONGEST.substring(0, n));
            due("3 it had " + n, x.blank(), n);
            due("3 it has none", x.blank(), 0);
            due("3 no letter is left", x.digest(), new DuneMaps().digest());
        }
        DuneMaps x = Check.with(WHOLE);
        due("5 THE PAGE is empty then", x.letter('0'), 1);
        Check.write(x, "1234567");
        x.was();
        due("17 THE PAGE is empty then", x.letter('0'), 1);
    }

    private static boolean fits(int code, int place, int sort) {
        boolean digit = code >= '0' && code <= '9';
        boolean wind = code == '<' || code == '>';
        return place < 8 ? digit : place == 8 && sort == 0 && wind;
    }

    /** Every letter at every place behind such as are right. */
    private static void faultAtEveryPlace() {
        for (int place = 0; place <= 8; place++) {
            for (int code = 1; code <= 126; code++) {
                DuneMaps x = page(WHOLE.substring(0, place));
                x.letter(code);
                for (int sort = 0; sort <= 1; sort++) {
                    due("4 fault(" + sort + "), letter " + code + " at " + place, x.fault(sort),
                        fits(code, place, sort) ? place + 1 : place);
                }
            }
        }
    }

    private static void faultBehindTheEnd() {
        for (int n = 0; n <= 12; n++) {
            DuneMaps x = page(LONGEST.substring(0, n));
            due("4 DUNES of " + n + " letters", x.fault(0), Math.min(n, 9));
            due("4 HEIGHTS of " + n + " letters", x.fault(1), Math.min(n, 8));
        }
    }

    private static void onlyTheFirstFaultIsTold() {
        for (int early = 0; early < 12; early++) {
            for (int late = early; late < 12; late++) {
                StringBuilder text = new StringBuilder(LONGEST);
                text.setCharAt(early, 'x');
                text.setCharAt(late, 'y');
                DuneMaps x = page(text.toString());
                due("4 the first of " + early + " and " + late, x.fault(0), Math.min(early, 9));
                due("4 the first, HEIGHTS", x.fault(1), Math.min(early, 8));
            }
        }
    }

    private static void onlyNineLettersAreDunes() {
        for (int n = 0; n <= 12; n++) {
            DuneMaps x = page(LONGEST.substring(0, n));
            due("5 dunes() of " + n + " letters", x.dunes(), n == 9 ? 28 : STATE);
            due("5 letters behind it, of " + n, x.count(8), n == 9 ? 0 : n);
            due("5 how often read, of " + n, x.count(9), n == 9 ? 1 : 0);
        }
    }

    private static void onlyEightLettersAreHeights() {
        for (int n = 0; n <= 12; n++) {
            DuneMaps x = Check.with(WHOLE);
            Check.write(x, "987654321098".substring(0, n));
            due("17 was() of " + n + " letters", x.was(), n == 8 ? 44 : STATE);
            due("17 letters behind it, of " + n, x.count(8), n == 8 ? 0 : n);
            due("17 whether told, of " + n, x.count(10), n == 8 ? 1 : 0);
        }
        DuneMaps x = page("01234567");
        due("17 no DUNES", x.was(), STATE);
        due("17 no DUNES, not told", x.count(10), 0);
    }

    private static void signsBesideThoseThatAreTaken() {
        for (int place = 0; place < 8; place++) {
            for (char sign : new char[] {'/', ':', '<', '>', ' '}) {
                StringBuilder text = new StringBuilder(WHOLE);
                text.setCharAt(place, sign);
                due("5 '" + sign + "' at " + place, page(text.toString()).dunes(), STATE);
                DuneMaps x = Check.with(WHOLE);
                Check.write(x, text.substring(0, 8));
                due("17 '" + sign + "' at " + place, x.was(), STATE);
            }
        }
        for (char sign : new char[] {';', '=', '?', '0'}) {
            due("5 no WIND '" + sign + "'", page("01234567" + sign).dunes(), STATE);
        }
        due("5 the WIND on", Check.with("01234567>").count(1), 1);
        due("5 the WIND back", Check.with("01234567<").count(1), 0);
    }

    private static void leastAndHighestSum() {
        due("5 no sand", page("00000000>").dunes(), 0);
        due("5 most sand", page("99999999<").dunes(), 72);
        DuneMaps x = Check.with("00000000>");
        due("5 DUNES without sand are DUNES", x.night(), 0);
        due("6 they have CELLS", x.cell(7, 0), 0);
        Check.write(x, "00000000");
        due("17 no sand", x.was(), 0);
        due("17 no sand, told all the same", x.count(10), 1);
        Check.write(x, "99999999");
        due("17 most sand", x.was(), 72);
    }

    /** HIGHER than both, less HIGH than both, or like one of them, at every CELL of the ring. */
    private static void everyShape() {
        for (int cell = 0; cell < 8; cell++) {
            for (int all = 0; all < 27; all++) {
                int[] heights = level(5);
                int here = all % 3;
                int behind = all / 3 % 3;
                int ahead = all / 9;
                heights[cell] = here;
                heights[beside(cell, BACK)] = behind;
                heights[beside(cell, ON)] = ahead;
                int lower = Math.min(behind, ahead);
                int higher = Math.max(behind, ahead);
                due("6 " + Check.digits(heights) + ", cell " + cell, with(heights, ON).cell(cell, 1),
                    here > higher ? 1 : here < lower ? 2 : 0);
            }
        }
    }

    private static void crestsFromNoneToFour() {
        String[] dunes = {"11111111>", "11211111>", "21211111>", "21212111>", "21212121>"};
        for (int n = 0; n <= 4; n++) {
            DuneMaps x = Check.with(dunes[n]);
            due("22 CRESTS of " + dunes[n], x.count(7), n);
            due("8 CELLS that were CRESTS of " + dunes[n], x.night(), n);
        }
        due("22 a slope has one CREST, at the ring's end", Check.with("01234567>").count(7), 1);
        due("22 two like ones are none", Check.with("00990000>").count(7), 0);
        due("22 two like ones at the ring's end are none", Check.with("90000009>").count(7), 0);
    }

    private interface Sight {
        void at(int cell, int wind, int kind, int way);
    }

    /** All CELLS, both WINDS, all KINDS, from both sides. */
    private static void everywhere(Sight sight) {
        for (int all = 0; all < 8 * 2 * 5 * 2; all++) {
            sight.at(all % 8, all / 8 % 2, all / 16 % 5, all / 80);
        }
    }

    /** He goes to the CELL by one STEP of that WAY: what moves, and what all are then. */
    private static void steps(String what, int[] before, int[] after, int cell, int wind, int kind,
        int way) {
        DuneMaps x = with(before, wind);
        x.walker(kind, beside(cell, other(way)));
        String told = what + ": " + Check.digits(before) + ", wind " + wind + ", kind " + kind
            + ", to " + cell + ", way " + way;
        due(told, x.step(0, way), Math.abs(after[cell] - before[cell]));
        due(told + ", where he is", x.about(0, 1), cell);
        CHECK.heights(told, x, after);
    }

    private static void crestsLoseNoMoreThanTheyHave() {
        for (int height = 1; height <= 9; height++) {
            int has = height;
            everywhere((cell, wind, kind, way) -> {
                int[] before = level(0);
                before[cell] = has;
                int[] after = before.clone();
                int lost = Math.min(WEIGHTS[kind], has);
                after[cell] -= lost;
                after[beside(cell, kind == GUIDE ? other(wind) : wind)] += lost;
                steps("12 a CREST of " + has, before, after, cell, wind, kind, way);
            });
        }
    }

    private static void hollowsGetNoMoreThanThatHas() {
        for (int height = 1; height <= 9; height++) {
            int has = height;
            everywhere((cell, wind, kind, way) -> {
                int giver = beside(cell, kind == GUIDE ? wind : other(wind));
                int[] before = level(9);
                before[cell] = 0;
                before[giver] = has;
                int[] after = before.clone();
                int got = Math.min(WEIGHTS[kind], has);
                after[cell] += got;
                after[giver] -= got;
                steps("12 a HOLLOW beside " + has, before, after, cell, wind, kind, way);
            });
        }
    }

    private static void levelCellsStay() {
        everywhere((cell, wind, kind, way) -> {
            int[] slope = level(5);
            slope[beside(cell, ON)] = 9;
            slope[beside(cell, BACK)] = 1;
            steps("12 a slope", slope, slope, cell, wind, kind, way);
            int[] flat = level(5);
            steps("12 like both", flat, flat, cell, wind, kind, way);
            int[] likeAhead = level(5);
            likeAhead[beside(cell, BACK)] = 0;
            steps("12 like that ahead", likeAhead, likeAhead, cell, wind, kind, way);
            int[] likeBehind = level(5);
            likeBehind[beside(cell, ON)] = 9;
            steps("12 like that behind", likeBehind, likeBehind, cell, wind, kind, way);
        });
    }

    /** Digits end at 9, HEIGHTS do not. */
    private static void heightsAboveNine() {
        DuneMaps x = Check.with("89800000<");
        x.walker(4, 2);
        due("12 four on top of eight", x.step(0, BACK), 4);
        due("6 HIGHER than a digit", x.cell(0, 0), 12);
        due("6 it is a CREST", x.cell(0, 1), 1);
        due("19 the highest may be so", x.moons(1, 1, 1), 11);
        due("13 a MAP tells it", x.map(0, BACK, 1), 12);
        due("16 it is HIGHER than 9", x.feet(0, 0, 9, 0), 1);
        due("16 by one STEP back", x.feet(0, 0, 9, 1), 0);
        Check.write(x, "89800000");
        x.was();
        // The least of those that come to CELL 1: from 0 back, 7 STEPS, over level sand.
        due("18 a CARAVAN alone did it", x.who(1), 4 * 128 + 6);
        x.night();
        due("8 it loses 1", x.cell(0, 0), 11);
        due("22 no sand is lost", x.count(0), 25);
    }

    private static void nightsOverTheRing() {
        for (int cell = 0; cell < 8; cell++) {
            for (int wind = BACK; wind <= ON; wind++) {
                int[] before = level(2);
                before[cell] = 3;
                DuneMaps x = with(before, wind);
                due("8 one CREST", x.night(), 1);
                int[] after = level(2);
                after[beside(cell, wind)] = 3;
                CHECK.heights("8 from " + cell + ", wind " + wind, x, after);
            }
        }
    }

    /** A CREST that another's sand levels in the same NIGHT gives its own all the same. */
    private static void nightsAllAtOnce() {
        for (int cell = 0; cell < 8; cell++) {
            for (int wind = BACK; wind <= ON; wind++) {
                int between = beside(cell, wind);
                int lesser = beside(between, wind);
                int[] heights = level(0);
                heights[cell] = 2;
                heights[lesser] = 1;
                DuneMaps x = with(heights, wind);
                due("8 two CRESTS at its beginning", x.night(), 2);
                int[] after = level(0);
                after[cell] = 1;
                after[between] = 1;
                after[beside(lesser, wind)] = 1;
                CHECK.heights("8 all at once, " + cell + ", wind " + wind, x, after);
            }
        }
    }

    private static void nightsLoseNoSand() {
        for (int all = 0; all < 256; all++) {
            int[] heights = level(0);
            for (int cell = 0; cell < 8; cell++) {
                heights[cell] = all >> cell & 1;
            }
            DuneMaps x = with(heights, all & 1);
            int sum = x.count(0);
            int crests = x.count(7);
            due("8 as many as count() tells", x.night(), crests);
            due("8 the sum stays", x.count(0), sum);
            due("8 one NIGHT more", x.count(5), 1);
        }
    }

    private static void windBothWays() {
        for (int was = BACK; was <= ON; was++) {
            for (int then = BACK; then <= ON; then++) {
                DuneMaps x = with(new int[] {0, 0, 0, 0, 0, 0, 0, 1}, was);
                due("7 whether it blew on", x.wind(then == ON), was);
                due("7 whether it blows on", x.count(1), then);
                due("7 no NIGHT by it", x.count(5), 0);
                due("7 nothing moves by it", x.cell(7, 0), 1);
                x.night();
                due("7 the next NIGHT is by it", x.cell(beside(7, then), 0), 1);
            }
        }
        due("15 no MAPS, whatever the WIND", Check.with("00000001<").order(10), NONE);
        DuneMaps x = with(new int[] {0, 0, 0, 0, 0, 0, 0, 1}, ON);
        x.walker(WALKER, 6);
        x.wind(false);
        x.step(0, ON);
        due("7 the next STEP is by it", x.cell(6, 0), 1);
    }
}
