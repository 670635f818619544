import java.math.BigInteger;
import java.util.ArrayList;
import java.util.Arrays;
import java.util.HashMap;
import java.util.List;
import java.util.Map;

/** Edges of WHO, MOONS, the IMAGE, other DUNES, and of what is told of all in 512 calls. */
public final class DuskTest {
    private static final int NONE = DuneMaps.NONE, UNKNOWN = DuneMaps.UNKNOWN;
    private static final int OUTSIDE = DuneMaps.OUTSIDE, STATE = DuneMaps.STATE;
    private static final int FULL = DuneMaps.FULL;
    private static final int WALKER = 0, CAMEL = 1, BRIDE = 2, GUIDE = 3, CARAVAN = 4;
    private static final int BACK = 0, ON = 1;
    private static final int MOST = Integer.MAX_VALUE;
    private static final String HILLS = "41605270>";

    private static final Check CHECK = new Check();

    public static void main(String[] args) {
        whoAsIfHeWalked("41605270>");
        whoAsIfHeWalked("41605270<");
        whoAsIfHeWalked("93817264>");
        whoFromNobodyToAll();
        onlyTheLastWalkOfAll();
        heightsToldAnew();
        nightsOfMoons();
        seedsOfMoons();
        footAheadOfTheNight();
        moonsLeaveAllAsItIs();
        imageKeepsHeights();
        imageKeepsTheWind();
        imageKeepsHowManyWalkers();
        imageKeepsWhereTheyAre();
        imageKeepsMaps();
        imageKeepsNightsAndSteps();
        restoreLeavesWhatIsNotKept();
        onlyTheLatestImage();
        imageIsNotTouched();
        imageOfOtherDunes();
        otherDunesTakeAllAway();
        refusedDunesTakeNothingAway();
        withoutDunesNothingIsCounted();
        digestOfNoneToFourWalkers();
        drawsAreRests();
        fiveHundredAndTwelveCalls();
        CHECK.end("DuskTest");
    }

    private static void due(String what, long got, long want) {
        CHECK.due(what, got, want);
    }

    private static DuneMaps with(String dunes, int kind, int cell) {
        return Check.with(dunes, kind, cell);
    }

    private static void tell(DuneMaps x, String heights) {
        Check.write(x, heights);
        x.was();
    }

    /** 128 times KIND, 16 times the CELL, 8 times WAY, and 1 less than STEPS. */
    private static DuneMaps walked(String dunes, int code) {
        DuneMaps x = with(dunes, code / 128, code / 16 % 8);
        x.map(0, code / 8 % 2, code % 8 + 1);
        x.go(0);
        tell(x, dunes.substring(0, 8));
        return x;
    }

    /** All 640 walks are really gone: those that leave the same are told together. */
    private static void whoAsIfHeWalked(String dunes) {
        Map<String, List<Integer>> alike = new HashMap<>();
        for (int code = 0; code < 640; code++) {
            String after = Arrays.toString(Check.heightsOf(walked(dunes, code)));
            alike.computeIfAbsent(after, none -> new ArrayList<>()).add(code);
        }
        for (int code = 0; code < 640; code++) {
            DuneMaps x = walked(dunes, code);
            List<Integer> codes = alike.get(Arrays.toString(Check.heightsOf(x)));
            due("18 how many, " + dunes + " " + code, x.who(0), codes.size());
            due("18 the least, " + dunes + " " + code, x.who(1), codes.get(0));
        }
    }

    private static void whoFromNobodyToAll() {
        DuneMaps x = Check.with("55555555>");
        due("18 nothing is told", x.who(0), STATE);
        tell(x, "55555555");
        due("18 all 640 did it", x.who(0), 640);
        due("18 the least is 0", x.who(1), 0);
        tell(x, "55555556");
        due("18 nobody did it", x.who(0), 0);
        due("18 nobody is the least", x.who(1), NONE);
        due("18 what too small", x.who(-1), OUTSIDE);
        due("18 what too large", x.who(2), OUTSIDE);
    }

    /** 639 is a CARAVAN from 7, on, 8 STEPS: the highest number of all. */
    private static void onlyTheLastWalkOfAll() {
        DuneMaps x = walked("65063305>", 639);
        CHECK.heights("18 what he left", x, "6 1 8 6 3 0 3 1");
        due("18 one alone", x.who(0), 1);
        due("18 the highest number", x.who(1), 639);
    }

    private static void heightsToldAnew() {
        DuneMaps x = Check.with("00090000>");
        tell(x, "00000000");
        due("17 nobody brings sand", x.who(0), 0);
        tell(x, "00090000");
        due("17 the latest are those that were", x.who(1), 0);
        Check.write(x, "0000000");
        due("17 too few letters", x.was(), STATE);
        due("17 those told stay", x.who(1), 0);
        due("22 they are told", x.count(10), 1);
    }

    private static long seedBehind(long seed, int draws) {
        BigInteger s = BigInteger.valueOf(seed);
        for (int i = 0; i < draws; i++) {
            s = s.multiply(BigInteger.valueOf(1103515245)).add(BigInteger.valueOf(12345))
                .mod(BigInteger.TWO.pow(31));
        }
        return s.longValueExact();
    }

    private static void nightsOfMoons() {
        DuneMaps x = Check.with(HILLS);
        for (int nights = 1; nights <= 60; nights++) {
            due("19 two DRAWS a NIGHT, " + nights, x.moons(nights, 5, 2), seedBehind(5, 2 * nights));
        }
        due("19 no NIGHT", x.moons(0, 5, 2), OUTSIDE);
        due("19 a NIGHT too many", x.moons(61, 5, 2), OUTSIDE);
        due("19 NIGHTS below none", x.moons(-1, 5, 2), OUTSIDE);
    }

    private static void seedsOfMoons() {
        DuneMaps x = Check.with(HILLS);
        for (int seed : new int[] {0, 1, 65535, 65536, 1 << 30, MOST - 1, MOST}) {
            due("19 SEED " + seed, x.moons(1, seed, 2), seedBehind(seed, 2));
            due("19 SEED " + seed + ", 60 NIGHTS", x.moons(60, seed, 2), seedBehind(seed, 120));
        }
        due("19 SEED too small", x.moons(1, -1, 2), OUTSIDE);
        due("19 what too small", x.moons(1, 0, -1), OUTSIDE);
        due("19 what too large", x.moons(1, 0, 3), OUTSIDE);
        due("19 OUTSIDE without DUNES", new DuneMaps().moons(0, 0, 0), OUTSIDE);
        due("19 no DUNES", new DuneMaps().moons(1, 0, 0), STATE);
    }

    /** SEED 0 draws CELL 0 and a GUIDE; a NIGHT ahead of him would leave him nothing to move. */
    private static void footAheadOfTheNight() {
        DuneMaps x = Check.with("10000000>");
        due("19 a foot moved it", x.moons(1, 0, 0), 1);
        due("19 it is the highest still", x.moons(1, 0, 1), 1);
        due("19 a lone CREST loses 1 in the NIGHT", Check.with("09000000>").moons(1, 0, 1), 8);
        due("19 no foot there", Check.with("09000000>").moons(1, 0, 0), 0);
        due("19 no sand, no foot", Check.with("00000000>").moons(60, 0, 0), 0);
        due("19 no sand, none HIGH", Check.with("00000000>").moons(60, 0, 1), 0);
    }

    private static void moonsLeaveAllAsItIs() {
        DuneMaps x = with(HILLS, CARAVAN, 0);
        x.map(0, ON, 8);
        long before = x.digest();
        int moved = x.moons(60, 3, 0);
        CHECK.so("19 feet moved something", moved > 0 && moved <= 60);
        due("19 as they would be", x.digest(), before);
        due("19 no NIGHT was", x.count(5), 0);
        due("19 once more the same", x.moons(60, 3, 0), moved);
    }

    private static void imageKeepsHeights() {
        DuneMaps x = with(HILLS, CARAVAN, 1);
        x.image();
        x.step(0, ON);
        due("20 the sand moved since", x.cell(2, 0), 2);
        x.restore();
        CHECK.heights("21 HEIGHTS", x, "4 1 6 0 5 2 7 0");
    }

    private static void imageKeepsTheWind() {
        for (int was = BACK; was <= ON; was++) {
            for (int then = BACK; then <= ON; then++) {
                DuneMaps x = Check.with(HILLS);
                x.wind(was == ON);
                x.image();
                x.wind(then == ON);
                x.restore();
                due("21 the WIND", x.count(1), was);
            }
        }
    }

    /** With so many at the IMAGE, and all four since. */
    private static void imageKeepsHowManyWalkers() {
        for (int kept = 0; kept <= 4; kept++) {
            DuneMaps x = Check.with(HILLS);
            for (int i = 0; i < 4; i++) {
                if (i == kept) {
                    x.image();
                }
                x.walker(i, i);
                x.step(i, ON);
                x.map(i, ON, 1);
            }
            if (kept == 4) {
                x.image();
            }
            x.restore();
            due("21 so many", x.count(2), kept);
            due("21 so many MAPS", x.count(3), kept);
            due("21 so many STEPS", x.count(6), kept);
            due("21 the next is gone", x.about(kept, 0), UNKNOWN);
            due("21 the last one stays", x.about(kept - 1, 0), kept == 0 ? UNKNOWN : kept - 1);
            due("21 a gone one is nowhere", kept < 4 ? x.cell(kept + 1, 2) : 0, 0);
            comesAnew(x, kept);
        }
    }

    /** Where others are gone there is room again, and who comes has nothing of theirs. */
    private static void comesAnew(DuneMaps x, int number) {
        if (number == 4) {
            due("anew, there is no room", x.walker(CARAVAN, 7), FULL);
            return;
        }
        due("anew, his number", x.walker(CARAVAN, 7), number);
        int[] told = {CARAVAN, 7, 4, 0, 0, 0, NONE, NONE};
        for (int what = 0; what <= 7; what++) {
            due("anew, about him, " + what, x.about(number, what), told[what]);
        }
        for (int more = number + 1; more < 4; more++) {
            due("anew, one more", x.walker(BRIDE, 0), more);
        }
        due("anew, then it is full", x.walker(BRIDE, 0), FULL);
    }

    private static void imageKeepsWhereTheyAre() {
        DuneMaps x = with(HILLS, BRIDE, 7);
        x.walker(BRIDE, 0);
        x.image();
        x.step(0, ON);
        x.step(1, BACK);
        due("20 across the ring's end", x.about(0, 1), 0);
        due("20 back across it", x.about(1, 1), 7);
        x.restore();
        due("21 where the first is", x.about(0, 1), 7);
        due("21 where the second is", x.about(1, 1), 0);
    }

    private static void imageKeepsMaps() {
        DuneMaps x = with(HILLS, BRIDE, 1);
        x.walker(BRIDE, 1);
        x.walker(CARAVAN, 1);
        x.map(0, BACK, 3);
        x.map(2, ON, 2);
        x.image();
        x.map(0, ON, 8);
        x.map(1, ON, 8);
        x.go(2);
        x.map(0, ON, 8);
        x.restore();
        due("21 a MAP drawn anew, its WAY", x.about(0, 6), BACK);
        due("21 a MAP drawn anew, its STEPS", x.about(0, 7), 3);
        due("21 it tells what it told", x.about(0, 5), 1);
        due("21 a MAP drawn since", x.about(1, 4), 0);
        due("21 a MAP gone since", x.about(2, 4), 1);
        due("21 it is GOOD again", x.about(2, 5), 1);
        due("21 two MAPS", x.count(3), 2);
        x.night();
        due("21 what was told stays told", x.about(2, 5), 0);
        x.image();
        x.map(2, ON, 2);
        due("20 a new one is GOOD", x.about(2, 5), 1);
        x.restore();
        due("21 the old one is not", x.about(2, 5), 0);
    }

    private static void imageKeepsNightsAndSteps() {
        DuneMaps x = with(HILLS, CAMEL, 1);
        due("20 no NIGHTS", x.image(), 0);
        x.night();
        due("20 one NIGHT", x.image(), 1);
        x.step(0, ON);
        x.step(0, ON);
        x.night();
        x.night();
        due("20 three by now", x.count(5), 3);
        due("21 one again", x.restore(), 1);
        due("21 NIGHTS", x.count(5), 1);
        due("21 his STEPS", x.about(0, 3), 0);
        due("21 the STEPS of all", x.count(6), 0);
        x.night();
        due("20 it goes on from there", x.image(), 2);
    }

    private static void restoreLeavesWhatIsNotKept() {
        DuneMaps x = Check.with("00090000>");
        Check.write(x, "ab");
        x.image();
        x.blank();
        tell(x, "00090000");
        Check.write(x, "xyz");
        x.restore();
        due("21 told since, they stay told", x.count(10), 1);
        due("21 those", x.who(1), 0);
        due("21 letters of THE PAGE", x.count(8), 3);
        due("21 THE PAGE's letters since", x.blank(), 3);
        due("21 how often DUNES were read", x.count(9), 1);
        x.image();
        tell(x, "00000000");
        x.restore();
        due("21 told anew since, the latest stay", x.who(0), 0);
    }

    private static void onlyTheLatestImage() {
        DuneMaps x = Check.with(HILLS);
        due("21 none was kept", x.restore(), STATE);
        for (int nights = 0; nights < 5; nights++) {
            due("20 NIGHTS", x.image(), nights);
            x.night();
        }
        due("21 the latest", x.restore(), 4);
        due("21 it is kept still", x.restore(), 4);
        x.night();
        due("21 still", x.restore(), 4);
    }

    /** What moves behind image() or restore() does not reach the IMAGE. */
    private static void imageIsNotTouched() {
        DuneMaps x = with(HILLS, CARAVAN, 1);
        x.map(0, ON, 4);
        x.image();
        long kept = x.digest();
        for (int i = 0; i < 3; i++) {
            x.go(0);
            x.wind(false);
            x.night();
            x.map(0, BACK, 8);
            x.walker(GUIDE, 0);
            x.map(1, ON, 7);
            x.go(1);
            due("21 no NIGHTS", x.restore(), 0);
            due("21 as it was", x.digest(), kept);
        }
    }

    private static void imageOfOtherDunes() {
        DuneMaps x = Check.with(HILLS);
        x.image();
        Check.write(x, HILLS);
        x.dunes();
        due("21 other DUNES since, though alike", x.restore(), STATE);
        due("20 an IMAGE of these", x.image(), 0);
        due("21 that one", x.restore(), 0);
        due("20 no DUNES", new DuneMaps().image(), STATE);
        due("21 no DUNES", new DuneMaps().restore(), STATE);
    }

    private static DuneMaps muchThatWas() {
        DuneMaps x = Check.with(HILLS);
        for (int i = 0; i < 4; i++) {
            x.walker(i, i);
            x.step(i, ON);
            x.map(i, ON, 8);
        }
        x.night();
        tell(x, "41605270");
        x.image();
        return x;
    }

    /** Behind other DUNES only how often they were read tells of those that were. */
    private static void otherDunesTakeAllAway() {
        DuneMaps x = muchThatWas();
        Check.write(x, "00100000<");
        due("5 their sum", x.dunes(), 1);
        int[] told = {1, 0, 0, 0, 0, 0, 0, 1, 0, 2, 0};
        for (int what = 0; what <= 10; what++) {
            due("5 count(" + what + ")", x.count(what), told[what]);
        }
        due("5 no WALKERS", x.about(0, 0), UNKNOWN);
        due("5 nobody is anywhere", x.cell(1, 2), 0);
        due("5 no MAPS", x.order(10), NONE);
        due("5 no HEIGHTS that were", x.who(0), STATE);
        due("5 no IMAGE", x.restore(), STATE);
        due("20 no NIGHTS", x.image(), 0);
        comesAnew(x, 0);
    }

    private static void refusedDunesTakeNothingAway() {
        DuneMaps x = muchThatWas();
        Check.write(x, "00100000");
        due("5 they are none", x.dunes(), STATE);
        due("22 WALKERS", x.count(2), 4);
        due("22 MAPS", x.count(3), 4);
        due("22 NIGHTS", x.count(5), 1);
        due("22 STEPS", x.count(6), 4);
        due("22 read once", x.count(9), 1);
        due("22 HEIGHTS that were", x.count(10), 1);
        due("21 the IMAGE", x.restore(), 1);
        due("5 THE PAGE", x.count(8), 8);
    }

    private static void withoutDunesNothingIsCounted() {
        DuneMaps x = new DuneMaps();
        Check.write(x, "012345678901");
        for (int what = 0; what <= 10; what++) {
            due("22 count(" + what + ")", x.count(what), what == 8 ? 12 : 0);
        }
        due("22 what too small", x.count(-1), OUTSIDE);
        due("22 what too large", x.count(11), OUTSIDE);
        long h = 881;
        for (char letter : "012345678901".toCharArray()) {
            h = 31 * h + letter;
        }
        for (int what = 0; what <= 10; what++) {
            h = 31 * h + (what == 8 ? 12 : 0);
        }
        due("23 a full PAGE alone, wrapping", x.digest(), h);
    }

    private static long folded(long h, long number) {
        return 31 * h + number;
    }

    /** The digest as the document tells it, of what the other calls answer. */
    private static long folded(DuneMaps x, boolean hasDunes, int walkers, String page) {
        long h = 881;
        for (int all = 0; hasDunes && all < 24; all++) {
            h = folded(h, x.cell(all / 3, all % 3));
        }
        for (int what : hasDunes ? new int[] {0, 10, 11, 12, 13} : new int[0]) {
            h = folded(h, x.order(what));
        }
        for (int all = 0; all < walkers * 8; all++) {
            h = folded(h, x.about(all / 8, all % 8));
        }
        for (int what = 0; x.count(10) == 1 && what <= 1; what++) {
            h = folded(h, x.who(what));
        }
        for (char letter : page.toCharArray()) {
            h = folded(h, letter);
        }
        for (int what = 0; what <= 10; what++) {
            h = folded(h, x.count(what));
        }
        return h;
    }

    private static void digestOfNoneToFourWalkers() {
        due("23 no DUNES", new DuneMaps().digest(), folded(new DuneMaps(), false, 0, ""));
        DuneMaps x = Check.with(HILLS);
        for (int n = 0; n <= 4; n++) {
            due("23 of " + n, x.digest(), folded(x, true, n, ""));
            x.walker(4 - n, 2 * n);
            x.step(n, BACK);
            x.map(n, n & 1, n + 4);
        }
        due("23 of four with MAPS", x.digest(), folded(x, true, 4, ""));
        tell(x, "41605270");
        due("23 HEIGHTS that were", x.digest(), folded(x, true, 4, ""));
        Check.write(x, "41605270>123");
        due("23 a full PAGE", x.digest(), folded(x, true, 4, "41605270>123"));
        due("23 it changes nothing", x.digest(), folded(x, true, 4, "41605270>123"));
    }

    /** On a lone CREST of 9 the first foot shows which CELL and which KIND were drawn. */
    private static void drawsAreRests() {
        int[] weights = {1, 2, 0, 1, 4};
        boolean[] drawn = new boolean[40];
        for (int seed = 0; seed < 400; seed++) {
            int cell = (int) (seedBehind(seed, 1) / 65536 % 8);
            int kind = (int) (seedBehind(seed, 2) / 65536 % 5);
            int[] heights = new int[8];
            heights[cell] = 9;
            DuneMaps x = Check.with(Check.digits(heights) + ">");
            String what = "seed " + seed + ", cell " + cell + ", kind " + kind;
            due("19 a foot, " + what, x.moons(1, seed, 0), kind == BRIDE ? 0 : 1);
            // In the NIGHT the CREST gives 1 more: a CARAVAN leaves 5 and 4, which become 4 and 5.
            due("19 the highest, " + what, x.moons(1, seed, 1),
                Math.max(9 - weights[kind] - 1, 1 + (kind == GUIDE ? 0 : weights[kind])));
            drawn[cell * 5 + kind] = true;
        }
        for (int all = 0; all < 40; all++) {
            CHECK.so("19 every CELL with every KIND was drawn", drawn[all]);
        }
    }

    /** Counted are the calls behind the constructor, the nine letters and dunes() among them. */
    private static void fiveHundredAndTwelveCalls() {
        DuneMaps x = Check.with(HILLS);
        for (int i = 1; i <= 501; i++) {
            x.night();
        }
        due("22 NIGHTS of 512 calls", x.count(5), 501);
        x = with(HILLS, CARAVAN, 0);
        for (int i = 0; i < 250; i++) {
            x.map(0, i & 1, 8);
            x.go(0);
        }
        due("22 STEPS of 512 calls", x.count(6), 2000);
        x = new DuneMaps();
        for (int i = 0; i < 51; i++) {
            Check.write(x, HILLS);
            x.dunes();
        }
        due("22 how often DUNES were read in 512 calls", x.count(9), 51);
        x = Check.with(HILLS);
        for (int i = 0; i < 501; i++) {
            x.letter('0');
        }
        due("22 letters of 512 calls", x.count(8), 12);
    }
}
