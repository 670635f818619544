/** Each promise by hand: ordinary inputs, the edges that the document names, wrong inputs. */
public final class PromisesTest {
    private static final int NONE = -1, UNKNOWN = -101, OUTSIDE = -102, STATE = -103, FULL = -104;
    private static final int WALKER = 0, CAMEL = 1, BRIDE = 2, GUIDE = 3, CARAVAN = 4;
    private static final int BACK = 0, ON = 1;
    private static final int LEAST = Integer.MIN_VALUE, MOST = Integer.MAX_VALUE;
    private static final String HILLS = "41605270>";

    private static final Check CHECK = new Check();

    public static void main(String[] args) {
        promise1();
        promise2();
        promise3();
        promise4();
        promise5();
        promise6();
        promise7();
        promise8();
        promise9();
        promise10();
        promise11();
        promise12Crests();
        promise12Hollows();
        promise12Edges();
        promise13();
        promise14();
        promise15();
        promise16();
        promise17();
        promise18();
        promise19();
        promise20And21();
        promise21Refusals();
        promise22();
        promise23();
        refusalsChangeNothing();
        CHECK.end("PromisesTest");
    }

    private static void due(String what, long got, long want) {
        CHECK.due(what, got, want);
    }

    private static DuneMaps with(String dunes) {
        return Check.with(dunes);
    }

    private static DuneMaps with(String dunes, int kind, int cell) {
        return Check.with(dunes, kind, cell);
    }

    private static void promise1() {
        DuneMaps x = new DuneMaps();
        for (int what = 0; what <= 10; what++) {
            due("1 new, count(" + what + ")", x.count(what), 0);
        }
        due("1 new, cell", x.cell(0, 0), UNKNOWN);
        due("1 new, cell, wrong what", x.cell(0, 9), UNKNOWN);
        due("1 new, wind", x.wind(true), STATE);
        due("1 new, wind did not turn", x.count(1), 0);
        due("1 new, night", x.night(), STATE);
        due("1 new, no night was counted", x.count(5), 0);
        due("1 new, walker", x.walker(WALKER, 0), UNKNOWN);
        due("1 new, about", x.about(0, 0), UNKNOWN);
        due("1 new, as", x.as(0, 0), UNKNOWN);
        due("1 new, step", x.step(0, ON), UNKNOWN);
        due("1 new, map", x.map(0, ON, 1), UNKNOWN);
        due("1 new, go", x.go(0), UNKNOWN);
        due("1 new, order", x.order(0), STATE);
        due("1 new, feet", x.feet(0, 0, 0, 0), UNKNOWN);
        due("1 new, who", x.who(0), STATE);
        due("1 new, moons", x.moons(1, 0, 0), STATE);
        due("1 new, image", x.image(), STATE);
        due("1 new, restore", x.restore(), STATE);
    }

    private static void promise2() {
        DuneMaps x = new DuneMaps();
        due("2 least code", x.letter(1), 1);
        due("2 highest code", x.letter(126), 2);
        due("2 code 0", x.letter(0), OUTSIDE);
        due("2 code 127", x.letter(127), OUTSIDE);
        due("2 code -1", x.letter(-1), OUTSIDE);
        due("2 least int", x.letter(LEAST), OUTSIDE);
        due("2 greatest int", x.letter(MOST), OUTSIDE);
        for (int n = 3; n <= 12; n++) {
            due("2 letter " + n, x.letter('0'), n);
        }
        due("2 letter 13", x.letter('0'), FULL);
        due("2 OUTSIDE ahead of FULL", x.letter(127), OUTSIDE);
        due("2 12 letters stay", x.count(8), 12);
    }

    private static void promise3() {
        DuneMaps x = new DuneMaps();
        due("3 empty", x.blank(), 0);
        Check.write(x, "012345678901");
        due("3 twelve", x.blank(), 12);
        due("3 emptied", x.blank(), 0);
        due("3 begins anew", x.letter('a'), 1);
    }

    private static int faultOf(String text, int sort) {
        DuneMaps x = new DuneMaps();
        Check.write(x, text);
        int fault = x.fault(sort);
        due("4 fault leaves THE PAGE", x.count(8), text.length());
        return fault;
    }

    private static void promise4() {
        due("4 empty, dunes", faultOf("", 0), 0);
        due("4 empty, heights", faultOf("", 1), 0);
        due("4 begun", faultOf("0123", 0), 4);
        due("4 whole on", faultOf("01234567>", 0), 9);
        due("4 whole back", faultOf("98765432<", 0), 9);
        due("4 no wind yet", faultOf("01234567", 0), 8);
        due("4 a digit too many", faultOf("012345678", 0), 8);
        due("4 letter behind the wind", faultOf("01234567>>", 0), 9);
        due("4 digit behind the wind", faultOf("01234567<0", 0), 9);
        due("4 wind too early", faultOf("0123456>", 0), 7);
        due("4 first letter", faultOf("x1234567>", 0), 0);
        due("4 first of two", faultOf("01/34:67>", 0), 2);
        due("4 sign behind 9", faultOf("0123456:", 1), 7);
        due("4 sign ahead of 0", faultOf("/", 1), 0);
        due("4 sign between", faultOf("01234567=", 0), 8);
        due("4 heights whole", faultOf("01234567", 1), 8);
        due("4 heights with a wind", faultOf("01234567>", 1), 8);
        due("4 heights, nine", faultOf("012345678", 1), 8);
        due("4 heights begun", faultOf("99", 1), 2);
        due("4 sort 2", faultOf("0", 2), OUTSIDE);
        due("4 sort -1", faultOf("0", -1), OUTSIDE);
        due("4 sort least", faultOf("0", LEAST), OUTSIDE);
        due("4 sort greatest", faultOf("0", MOST), OUTSIDE);
    }

    private static void promise5() {
        DuneMaps x = new DuneMaps();
        due("5 empty page", x.dunes(), STATE);
        Check.write(x, "41605270");
        due("5 no wind", x.dunes(), STATE);
        due("5 refused, the letters stay", x.count(8), 8);
        x.letter('>');
        due("5 sum", x.dunes(), 25);
        due("5 page is empty", x.count(8), 0);
        CHECK.heights("5 read", x, "4 1 6 0 5 2 7 0");
        due("5 wind on", x.count(1), 1);
        Check.write(x, "41605270>0");
        due("5 too long", x.dunes(), STATE);
        due("5 refused, they stay", x.count(0), 25);
        due("5 read once", x.count(9), 1);
        x.blank();
        everythingThatWas(x);
        Check.write(x, "99999999<");
        due("5 highest sum", x.dunes(), 72);
        due("5 wind back", x.count(1), 0);
        due("5 read twice", x.count(9), 2);
        for (int what : new int[] {2, 3, 4, 5, 6, 7, 8, 10}) {
            due("5 anew, count(" + what + ")", x.count(what), 0);
        }
        due("5 anew, image is gone", x.restore(), STATE);
        due("5 anew, heights that were are gone", x.who(0), STATE);
        due("5 anew, walkers are gone", x.about(0, 0), UNKNOWN);
        due("5 anew, numbers from 0", x.walker(CAMEL, 3), 0);
        due("5 anew, no map", x.about(0, 4), 0);
        due("5 anew, no steps", x.about(0, 3), 0);
    }

    private static void everythingThatWas(DuneMaps x) {
        x.walker(WALKER, 2);
        x.step(0, ON);
        x.map(0, ON, 3);
        x.night();
        x.image();
        Check.write(x, "11111111");
        x.was();
    }

    private static void promise6() {
        DuneMaps x = with("41605527<");
        int[] shapes = {0, 2, 1, 2, 0, 0, 2, 1};
        int[] heights = {4, 1, 6, 0, 5, 5, 2, 7};
        for (int cell = 0; cell < 8; cell++) {
            due("6 height " + cell, x.cell(cell, 0), heights[cell]);
            due("6 shape " + cell, x.cell(cell, 1), shapes[cell]);
            due("6 nobody " + cell, x.cell(cell, 2), 0);
        }
        due("6 level beside a like one", with("00330000>").cell(2, 1), 0);
        due("6 level hollow beside a like one", with("55335555>").cell(2, 1), 0);
        due("6 crest over the ring", with("50000004>").cell(0, 1), 1);
        due("6 no crest over the ring", with("50000005>").cell(0, 1), 0);
        due("6 hollow over the ring", with("90000000>").cell(7, 1), 0);
        due("6 hollow at 7", with("90000010>").cell(7, 1), 2);
        x.walker(WALKER, 7);
        x.walker(BRIDE, 7);
        x.walker(GUIDE, 0);
        due("6 two on one", x.cell(7, 2), 2);
        due("6 one", x.cell(0, 2), 1);
        x.step(0, ON);
        due("6 one went", x.cell(7, 2), 1);
        due("6 one came", x.cell(0, 2), 2);
        due("6 cell -1", x.cell(-1, 0), UNKNOWN);
        due("6 cell 8", x.cell(8, 0), UNKNOWN);
        due("6 UNKNOWN ahead of OUTSIDE", x.cell(LEAST, 3), UNKNOWN);
        due("6 what 3", x.cell(0, 3), OUTSIDE);
        due("6 what -1", x.cell(0, -1), OUTSIDE);
        due("6 what greatest", x.cell(7, MOST), OUTSIDE);
    }

    private static void promise7() {
        DuneMaps x = with("00090000>");
        due("7 it blew on", x.wind(true), 1);
        due("7 it blew on still", x.wind(false), 1);
        due("7 it blows back", x.count(1), 0);
        due("7 it blew back", x.wind(false), 0);
        x.night();
        CHECK.heights("7 night by the wind back", x, "0 0 1 8 0 0 0 0");
        due("7 it blew back still", x.wind(true), 0);
        due("7 it blows on", x.count(1), 1);
        x.night();
        CHECK.heights("7 night by the wind on", x, "0 0 1 7 1 0 0 0");
    }

    private static void promise8() {
        DuneMaps x = with("05010000>");
        due("8 two crests", x.night(), 2);
        CHECK.heights("8 all at once", x, "0 4 1 0 1 0 0 0");
        due("8 nights", x.count(5), 1);
        x = with("00001050<");
        due("8 two crests, back", x.night(), 2);
        CHECK.heights("8 all at once, back", x, "0 0 0 1 0 1 4 0");
        x = with("00000003>");
        due("8 ring on", x.night(), 1);
        CHECK.heights("8 ring on", x, "1 0 0 0 0 0 0 2");
        x = with("30000000<");
        due("8 ring back", x.night(), 1);
        CHECK.heights("8 ring back", x, "2 0 0 0 0 0 0 1");
        x = with("55555555>");
        due("8 no crest", x.night(), 0);
        due("8 it is a night all the same", x.count(5), 1);
        x = with("90909090>");
        due("8 four", x.night(), 4);
        CHECK.heights("8 four", x, "8 1 8 1 8 1 8 1");
        x.walker(CARAVAN, 0);
        x.night();
        due("8 he stays", x.about(0, 1), 0);
        due("8 he goes no step", x.count(6), 0);
    }

    private static void promise9() {
        DuneMaps x = with(HILLS);
        due("9 kind -1", x.walker(-1, 0), OUTSIDE);
        due("9 kind 5", x.walker(5, 0), OUTSIDE);
        due("9 OUTSIDE ahead of UNKNOWN", x.walker(MOST, 8), OUTSIDE);
        due("9 cell 8", x.walker(0, 8), UNKNOWN);
        due("9 cell -1", x.walker(4, -1), UNKNOWN);
        due("9 refused ones have no number", x.count(2), 0);
        for (int number = 0; number < 4; number++) {
            due("9 number " + number, x.walker(number + 1, 7), number);
            due("9 kind of " + number, x.about(number, 0), number + 1);
        }
        due("9 a fifth", x.walker(0, 0), FULL);
        due("9 UNKNOWN ahead of FULL", x.walker(0, 8), UNKNOWN);
        due("9 OUTSIDE ahead of FULL", x.walker(5, 0), OUTSIDE);
        due("9 four", x.count(2), 4);
        CHECK.heights("9 coming treads nothing", x, "4 1 6 0 5 2 7 0");
        DuneMaps none = new DuneMaps();
        due("9 OUTSIDE without DUNES", none.walker(5, 0), OUTSIDE);
    }

    private static void promise10() {
        int[] weights = {1, 2, 0, 1, 4};
        for (int kind = 0; kind < 5; kind++) {
            DuneMaps x = with(HILLS, kind, 5);
            int[] told = {kind, 5, weights[kind], 0, 0, 0, NONE, NONE};
            for (int what = 0; what < 8; what++) {
                due("10 kind " + kind + ", about " + what, x.about(0, what), told[what]);
            }
        }
        DuneMaps x = with(HILLS, WALKER, 7);
        x.map(0, BACK, 4);
        due("10 has a map", x.about(0, 4), 1);
        due("10 it is good", x.about(0, 5), 1);
        due("10 its way, back", x.about(0, 6), BACK);
        due("10 its steps", x.about(0, 7), 4);
        x.map(0, ON, 8);
        due("10 its way, on", x.about(0, 6), ON);
        due("10 its steps, anew", x.about(0, 7), 8);
        x.step(0, ON);
        due("10 cell over the ring", x.about(0, 1), 0);
        due("10 steps gone", x.about(0, 3), 1);
        due("10 it is not good from there", x.about(0, 5), 0);
        due("10 he has it still", x.about(0, 4), 1);
        x.step(0, BACK);
        due("10 back over the ring", x.about(0, 1), 7);
        due("10 two steps gone", x.about(0, 3), 2);
        x.go(0);
        due("10 by the map eight more", x.about(0, 3), 10);
        due("10 the map is gone", x.about(0, 4), 0);
        due("10 none is not good", x.about(0, 5), 0);
        due("10 none has no way", x.about(0, 6), NONE);
        due("10 none has no steps", x.about(0, 7), NONE);
        due("10 walker 1", x.about(1, 0), UNKNOWN);
        due("10 walker -1", x.about(-1, 0), UNKNOWN);
        due("10 UNKNOWN ahead of OUTSIDE", x.about(LEAST, 8), UNKNOWN);
        due("10 what 8", x.about(0, 8), OUTSIDE);
        due("10 what -1", x.about(0, -1), OUTSIDE);
        goodOnLikeSand();
    }

    /** A MAP tells HEIGHTS, not CELLS: it is GOOD wherever they are alike. */
    private static void goodOnLikeSand() {
        DuneMaps x = with("55555555>", WALKER, 0);
        x.map(0, ON, 3);
        x.step(0, ON);
        due("10 good on like sand", x.about(0, 5), 1);
        x = with("12121212>", BRIDE, 0);
        x.map(0, ON, 2);
        x.step(0, ON);
        due("10 step by step, not the sum", x.about(0, 5), 0);
        x.step(0, ON);
        due("10 good two on", x.about(0, 5), 1);
    }

    private static void promise11() {
        DuneMaps[] each = new DuneMaps[5];
        boolean[][] is = {
            {true, false, false, false, false},
            {true, true, false, false, false},
            {true, false, true, false, false},
            {true, false, false, true, false},
            {true, true, false, false, true}};
        for (int kind = 0; kind < 5; kind++) {
            each[kind] = with(HILLS, WALKER, 0);
            each[kind].walker(kind, 0);
            for (int as = 0; as < 5; as++) {
                due("11 kind " + kind + " as " + as, each[kind].as(1, as), is[kind][as] ? 1 : NONE);
            }
        }
        due("11 number 0", each[4].as(0, 0), 0);
        due("11 kind 5", each[0].as(0, 5), OUTSIDE);
        due("11 kind -1", each[0].as(0, -1), OUTSIDE);
        due("11 walker 2", each[0].as(2, 0), UNKNOWN);
        due("11 UNKNOWN ahead of OUTSIDE", each[0].as(-1, 5), UNKNOWN);
    }

    private static void steps(String dunes, int kind, int from, int way, int moved, String after) {
        DuneMaps x = with(dunes, kind, from);
        String what = "12 " + dunes + ", kind " + kind + " from " + from + ", way " + way;
        due(what, x.step(0, way), moved);
        CHECK.heights(what, x, after);
    }

    private static void promise12Crests() {
        steps(HILLS, WALKER, 1, ON, 1, "4 1 5 1 5 2 7 0");
        steps(HILLS, CAMEL, 1, ON, 2, "4 1 4 2 5 2 7 0");
        steps(HILLS, BRIDE, 1, ON, 0, "4 1 6 0 5 2 7 0");
        steps(HILLS, GUIDE, 1, ON, 1, "4 2 5 0 5 2 7 0");
        steps(HILLS, CARAVAN, 1, ON, 4, "4 1 2 4 5 2 7 0");
        steps(HILLS, WALKER, 3, BACK, 1, "4 1 5 1 5 2 7 0");
        steps("41605270<", WALKER, 1, ON, 1, "4 2 5 0 5 2 7 0");
        steps("41605270<", GUIDE, 1, ON, 1, "4 1 5 1 5 2 7 0");
        steps("00020000>", CARAVAN, 2, ON, 2, "0 0 0 0 2 0 0 0");
        steps("00010000<", CAMEL, 4, BACK, 1, "0 0 1 0 0 0 0 0");
        steps("89800000<", CARAVAN, 0, ON, 4, "12 5 8 0 0 0 0 0");
    }

    private static void promise12Hollows() {
        steps(HILLS, WALKER, 2, ON, 1, "4 1 5 1 5 2 7 0");
        steps(HILLS, CAMEL, 2, ON, 2, "4 1 4 2 5 2 7 0");
        steps(HILLS, BRIDE, 2, ON, 0, "4 1 6 0 5 2 7 0");
        steps(HILLS, GUIDE, 2, ON, 1, "4 1 6 1 4 2 7 0");
        steps(HILLS, CARAVAN, 2, ON, 4, "4 1 2 4 5 2 7 0");
        steps("41605270<", CARAVAN, 2, ON, 4, "4 1 6 4 1 2 7 0");
        steps("41605270<", GUIDE, 4, BACK, 1, "4 1 5 1 5 2 7 0");
        steps("91011111>", CARAVAN, 1, ON, 1, "9 0 1 1 1 1 1 1");
        steps("91032222<", CARAVAN, 1, ON, 3, "9 1 3 0 2 2 2 2");
    }

    private static void promise12Edges() {
        steps("50000000>", WALKER, 7, ON, 1, "4 1 0 0 0 0 0 0");
        steps("50000000>", GUIDE, 7, ON, 1, "4 0 0 0 0 0 0 1");
        steps("00000005>", WALKER, 0, BACK, 1, "1 0 0 0 0 0 0 4");
        steps("09999999>", CAMEL, 7, ON, 2, "2 9 9 9 9 9 9 7");
        steps("09999999>", GUIDE, 7, ON, 1, "1 8 9 9 9 9 9 9");
        steps("00550000>", CARAVAN, 1, ON, 0, "0 0 5 5 0 0 0 0");
        steps("01234567>", CARAVAN, 1, ON, 0, "0 1 2 3 4 5 6 7");
        DuneMaps x = with(HILLS, CARAVAN, 2);
        due("12 way 2", x.step(0, 2), OUTSIDE);
        due("12 way -1", x.step(0, -1), OUTSIDE);
        due("12 walker 1", x.step(1, ON), UNKNOWN);
        due("12 UNKNOWN ahead of OUTSIDE", x.step(MOST, MOST), UNKNOWN);
        due("12 refused, he stays", x.about(0, 1), 2);
        due("12 refused, no step", x.about(0, 3), 0);
        due("12 what he leaves is not trodden", x.cell(2, 0), 6);
        x.walker(BRIDE, 3);
        x.step(1, ON);
        due("12 the other stays", x.about(0, 1), 2);
        due("12 steps of all", x.count(6), 1);
    }

    private static void promise13() {
        DuneMaps x = with(HILLS, WALKER, 6);
        due("13 one on", x.map(0, ON, 1), 0);
        due("13 three on, over the ring", x.map(0, ON, 3), 5);
        due("13 three back", x.map(0, BACK, 3), 7);
        due("13 all eight", x.map(0, BACK, 8), 25);
        due("13 anew, one map", x.count(3), 1);
        CHECK.heights("13 drawing treads nothing", x, "4 1 6 0 5 2 7 0");
        due("13 he stays", x.about(0, 1), 6);
        due("13 steps 0", x.map(0, ON, 0), OUTSIDE);
        due("13 steps 9", x.map(0, ON, 9), OUTSIDE);
        due("13 way 2", x.map(0, 2, 1), OUTSIDE);
        due("13 way -1", x.map(0, -1, 1), OUTSIDE);
        due("13 least steps", x.map(0, ON, LEAST), OUTSIDE);
        due("13 UNKNOWN ahead of OUTSIDE", x.map(1, 2, 9), UNKNOWN);
        due("13 refused, the map stays", x.about(0, 7), 8);
        x.night();
        due("13 told as when it was drawn", x.about(0, 5), 0);
        x.map(0, BACK, 8);
        due("13 anew, good again", x.about(0, 5), 1);
    }

    private static void promise14() {
        DuneMaps x = with(HILLS, WALKER, 1);
        due("14 no map", x.go(0), STATE);
        due("14 walker 1", x.go(1), UNKNOWN);
        due("14 walker -1", x.go(-1), UNKNOWN);
        x.map(0, ON, 2);
        due("14 good when he set out", x.go(0), 1);
        // 2 is a CREST: 1 6 0 become 1 5 1; then 3 is a HOLLOW still: 5 1 become 4 2.
        CHECK.heights("14 trodden step by step", x, "4 1 4 2 5 2 7 0");
        due("14 he is there", x.about(0, 1), 3);
        due("14 two steps", x.about(0, 3), 2);
        due("14 the map is gone", x.go(0), STATE);
        DuneMaps second = with("00090000>", WALKER, 2);
        second.walker(WALKER, 2);
        second.map(0, ON, 1);
        second.map(1, ON, 1);
        due("14 the first of a caravan", second.go(0), 1);
        due("14 the second is lost", second.go(1), 0);
        due("14 he went all the same", second.about(1, 1), 3);
        CHECK.heights("14 both trod", second, "0 0 0 7 2 0 0 0");
    }

    private static void promise15() {
        DuneMaps x = with("00090000>", WALKER, 2);
        due("15 no maps", x.order(0), 0);
        due("15 nobody goes", x.order(10), NONE);
        x.walker(BRIDE, 2);
        x.map(0, ON, 1);
        x.map(1, ON, 1);
        due("15 the bride first: both hold", x.order(0), 2);
        due("15 first", x.order(10), 1);
        due("15 second", x.order(11), 0);
        due("15 third", x.order(12), NONE);
        due("15 fourth", x.order(13), NONE);
        CHECK.heights("15 as it would be", x, "0 0 0 9 0 0 0 0");
        due("15 maps stay", x.count(3), 2);
        due("15 nobody went", x.count(6), 0);
        x.night();
        due("15 none holds any more", x.order(0), 0);
        due("15 none holds: by numbers", x.order(10), 0);
        x = with("00090000>", WALKER, 1);
        x.walker(WALKER, 2);
        x.map(0, ON, 1);
        x.map(1, ON, 1);
        due("15 he goes no farther than his map", x.order(0), 2);
        due("15 so he may go first", x.order(10), 0);
        x = with("00090000>", WALKER, 2);
        x.walker(WALKER, 4);
        x.walker(WALKER, 2);
        x.walker(BRIDE, 0);
        x.map(0, ON, 1);
        x.map(2, ON, 1);
        due("15 of like ones, how many", x.order(0), 1);
        due("15 of like ones the first", x.order(10), 0);
        due("15 only who has a map", x.order(11), 2);
        due("15 no more", x.order(12), NONE);
        x.map(1, BACK, 1);
        x.map(3, BACK, 8);
        due("15 four go, one of the three holds", x.order(0), 2);
        due("15 of four, first", x.order(10), 3);
        due("15 of four, second", x.order(11), 0);
        due("15 of four, third", x.order(12), 1);
        due("15 of four, fourth", x.order(13), 2);
        for (int what : new int[] {-1, 1, 9, 14, LEAST, MOST}) {
            due("15 what " + what, x.order(what), OUTSIDE);
            due("15 OUTSIDE ahead of STATE", new DuneMaps().order(what), OUTSIDE);
        }
        due("15 STATE", new DuneMaps().order(13), STATE);
    }

    private static void promise16() {
        DuneMaps x = with(HILLS, CARAVAN, 1);
        due("16 it is so already", x.feet(0, 2, 6, 0), 0);
        due("16 it is so already, which", x.feet(0, 2, 6, 1), 0);
        due("16 one step", x.feet(0, 2, 3, 0), 1);
        due("16 one step on", x.feet(0, 2, 3, 1), 1);
        due("16 one step back", x.feet(0, 0, 0, 0), 1);
        due("16 one step back, which", x.feet(0, 0, 0, 1), 0);
        x = with("90909090<", CARAVAN, 1);
        due("16 on and back", x.feet(0, 2, 3, 0), 2);
        due("16 on and back, which", x.feet(0, 2, 3, 1), 1);
        // From the crest itself: back and on, or on and back; back comes first.
        x = with("00100000>", CAMEL, 2);
        due("16 of like ones, how few", x.feet(0, 2, 0, 0), 2);
        due("16 of like ones the first", x.feet(0, 2, 0, 1), 2);
        x = with("00020000>", CAMEL, 3);
        due("16 round or off and on: fewest", x.feet(0, 3, 0, 0), 2);
        x = with("00090000>", BRIDE, 3);
        due("16 none", x.feet(0, 3, 8, 0), NONE);
        due("16 none, which", x.feet(0, 3, 8, 1), NONE);
        x = with("80000000>", WALKER, 3);
        due("16 three back are fewer than five on", x.feet(0, 0, 7, 0), 3);
        due("16 three back", x.feet(0, 0, 7, 1), 0);
        feetOfEight();
        feetRefusals();
    }

    /** On a lone CREST each second STEP treads it again, so that 8 STEPS take 4 of it. */
    private static void feetOfEight() {
        DuneMaps x = with("00009000>", GUIDE, 4);
        int[] few = {0, 2, 4, 6, 8, NONE, NONE, NONE, NONE, NONE};
        int[] which = {0, 2, 10, 42, 170, NONE, NONE, NONE, NONE, NONE};
        for (int loss = 0; loss <= 9; loss++) {
            due("16 how few to lose " + loss, x.feet(0, 4, 9 - loss, 0), few[loss]);
            due("16 which to lose " + loss, x.feet(0, 4, 9 - loss, 1), which[loss]);
            walksAsTold(HILLS, CAMEL, 5, 6, 9 - loss);
        }
        CHECK.heights("16 as it would be", x, "0 0 0 0 9 0 0 0");
        due("16 he stays", x.about(0, 1), 4);
        due("16 he went no step", x.count(6), 0);
    }

    private static void walksAsTold(String dunes, int kind, int from, int cell, int height) {
        DuneMaps x = with(dunes, kind, from);
        int few = x.feet(0, cell, height, 0);
        int which = x.feet(0, cell, height, 1);
        for (int i = 0; i < few; i++) {
            CHECK.so("16 too high until the last step", x.cell(cell, 0) > height);
            x.step(0, which >> i & 1);
        }
        CHECK.so("16 no higher then, or none", few == NONE || x.cell(cell, 0) <= height);
    }

    private static void feetRefusals() {
        DuneMaps x = with(HILLS, WALKER, 1);
        due("16 walker 1", x.feet(1, 0, 0, 0), UNKNOWN);
        due("16 walker -1", x.feet(-1, 0, 0, 0), UNKNOWN);
        due("16 cell 8", x.feet(0, 8, 0, 0), UNKNOWN);
        due("16 cell -1", x.feet(0, -1, 0, 0), UNKNOWN);
        due("16 UNKNOWN ahead of OUTSIDE", x.feet(0, 8, 10, 2), UNKNOWN);
        due("16 height -1", x.feet(0, 0, -1, 0), OUTSIDE);
        due("16 height 10", x.feet(0, 0, 10, 0), OUTSIDE);
        due("16 height 9", x.feet(0, 0, 9, 0), 0);
        due("16 what 2", x.feet(0, 0, 9, 2), OUTSIDE);
        due("16 what -1", x.feet(0, 0, 9, -1), OUTSIDE);
    }

    private static void promise17() {
        DuneMaps x = new DuneMaps();
        Check.write(x, "00090000");
        due("17 no DUNES", x.was(), STATE);
        due("17 refused, the letters stay", x.count(8), 8);
        x.letter('>');
        x.dunes();
        due("17 not told", x.count(10), 0);
        due("17 empty page", x.was(), STATE);
        Check.write(x, "0009000");
        due("17 seven", x.was(), STATE);
        x.letter('5');
        due("17 sum", x.was(), 14);
        due("17 page is empty", x.count(8), 0);
        due("17 told", x.count(10), 1);
        Check.write(x, "00090000>");
        due("17 with a wind", x.was(), STATE);
        x.blank();
        Check.write(x, "0009000x");
        due("17 a letter", x.was(), STATE);
        due("17 told still", x.count(10), 1);
        CHECK.heights("17 they stay as they are", x, "0 0 0 9 0 0 0 0");
    }

    private static void promise18() {
        DuneMaps x = with("00090000>", WALKER, 2);
        due("18 not told", x.who(0), STATE);
        due("18 OUTSIDE ahead of STATE", x.who(2), OUTSIDE);
        x.step(0, ON);
        Check.write(x, "00090000");
        x.was();
        // A WALKER who treads 3 once within 8 steps: by each way 8 + 7 + .. + 1 walks.
        due("18 how many", x.who(0), 72);
        due("18 the least: 0, from 0, back, 5 steps", x.who(1), 4);
        due("18 what 2", x.who(2), OUTSIDE);
        due("18 what -1", x.who(-1), OUTSIDE);
        x.wind(false);
        // By the other wind only a GUIDE does it, by as many walks.
        due("18 by the wind as now", x.who(0), 72);
        due("18 a guide from 0, back, 5 steps", x.who(1), 3 * 128 + 4);
        x.wind(true);
        x.night();
        x.night();
        due("18 nobody", x.who(0), 0);
        due("18 nobody, the least", x.who(1), NONE);
        x = with("55555555>");
        Check.write(x, "55555555");
        x.was();
        due("18 all 640", x.who(0), 640);
        due("18 the very least", x.who(1), 0);
        x = with("00700200>", CARAVAN, 6);
        x.step(0, BACK);
        Check.write(x, "00700200");
        x.was();
        due("18 a camel may have done it", x.who(1) / 128, CAMEL);
        x = with("90000000<", CARAVAN, 7);
        x.step(0, ON);
        Check.write(x, "90000000");
        x.was();
        // From 0 back, the eighth STEP: the HEIGHT of 7 is 0 until then.
        due("18 kind, cell, way, steps", x.who(1), 4 * 128 + 7);
        x = with("00000000>");
        Check.write(x, "10000000");
        x.was();
        due("18 nobody takes sand away", x.who(0), 0);
        onlyWalk(6, ON, "0 5 2 4 1 2 3 8");
        onlyWalk(3, BACK, "0 5 0 2 5 6 3 4");
    }

    /** A CARAVAN's 8 STEPS over the HILLS, which no other walk is like. */
    private static void onlyWalk(int from, int way, String after) {
        DuneMaps x = with(HILLS, CARAVAN, from);
        x.map(0, way, 8);
        x.go(0);
        CHECK.heights("18 eight steps from " + from, x, after);
        Check.write(x, "41605270");
        x.was();
        due("18 only one", x.who(0), 1);
        due("18 that one", x.who(1), 4 * 128 + 16 * from + 8 * way + 7);
    }

    private static void promise19() {
        DuneMaps x = with("55555555>");
        due("19 seed of two draws", x.moons(1, 0, 2), 1406932606);
        due("19 seed of the greatest", x.moons(1, MOST, 2), 288979989);
        due("19 nothing moves on level sand", x.moons(60, 7, 0), 0);
        due("19 highest of level sand", x.moons(60, 7, 1), 5);
        due("19 highest of no sand", with("00000000>").moons(60, 7, 1), 0);
        // Seed 1 draws CELL 6, where nothing moves; seed 0 draws CELL 0 and a GUIDE.
        due("19 the night alone", with("90000000>").moons(1, 1, 1), 8);
        due("19 no foot", with("90000000>").moons(1, 1, 0), 0);
        due("19 a guide and the night", with("90000000>").moons(1, 0, 1), 7);
        due("19 a foot", with("90000000>").moons(1, 0, 0), 1);
        x = with("00090000>");
        long before = x.digest();
        x.moons(60, 0, 0);
        due("19 as they would be", x.digest(), before);
        due("19 nights 0", x.moons(0, 0, 0), OUTSIDE);
        due("19 nights 61", x.moons(61, 0, 0), OUTSIDE);
        due("19 seed -1", x.moons(1, -1, 0), OUTSIDE);
        due("19 what 3", x.moons(1, 0, 3), OUTSIDE);
        due("19 what -1", x.moons(1, 0, -1), OUTSIDE);
        due("19 OUTSIDE ahead of STATE", new DuneMaps().moons(61, 0, 0), OUTSIDE);
        due("19 STATE", new DuneMaps().moons(60, 0, 0), STATE);
    }

    private static void promise20And21() {
        DuneMaps x = with(HILLS, WALKER, 1);
        due("20 no nights", x.image(), 0);
        x.night();
        x.walker(CARAVAN, 5);
        x.map(0, ON, 3);
        x.step(1, ON);
        due("20 the latest", x.image(), 1);
        long kept = x.digest();
        due("20 it changes nothing", x.count(2), 2);
        x.night();
        x.wind(false);
        x.step(0, BACK);
        x.go(0);
        x.map(0, BACK, 5);
        x.map(1, BACK, 7);
        x.walker(GUIDE, 0);
        x.walker(BRIDE, 0);
        x.step(2, ON);
        x.map(3, ON, 1);
        due("20 nights go on", x.count(5), 2);
        due("21 nights then", x.restore(), 1);
        due("21 all is as it was", x.digest(), kept);
        due("21 those that came are gone", x.about(2, 0), UNKNOWN);
        due("21 the next one's number", x.walker(CAMEL, 4), 2);
        due("21 he has no steps", x.about(2, 3), 0);
        due("21 he has no map", x.about(2, 4), 0);
        x.step(0, ON);
        due("21 once more", x.restore(), 1);
        due("21 all is as it was, once more", x.digest(), kept);
        Check.write(x, "12345678");
        x.was();
        x.letter('x');
        x.restore();
        due("21 heights that were stay told", x.count(10), 1);
        due("21 letters stay", x.count(8), 1);
    }

    private static void promise21Refusals() {
        DuneMaps x = with(HILLS);
        due("21 none kept", x.restore(), STATE);
        x.image();
        Check.write(x, "1234");
        due("21 no other dunes were read", x.dunes(), STATE);
        due("21 it stands", x.restore(), 0);
        x.blank();
        Check.write(x, HILLS);
        x.dunes();
        due("21 other dunes since", x.restore(), STATE);
        x.image();
        due("21 an image of these", x.restore(), 0);
        due("21 how often read stays", x.count(9), 2);
    }

    private static void promise22() {
        DuneMaps x = with("90909090>", CARAVAN, 0);
        x.walker(WALKER, 3);
        x.walker(BRIDE, 6);
        x.night();
        x.night();
        x.map(0, ON, 2);
        x.map(2, BACK, 8);
        x.step(1, ON);
        x.step(1, ON);
        x.step(1, ON);
        Check.write(x, "00000000");
        x.was();
        Check.write(x, "abc");
        // 72727272, then 4 gives 1 to 5, 5 takes 1 of 4, 6 gives 1 to 7.
        CHECK.heights("22", x, "7 2 7 2 5 4 6 3");
        int[] told = {36, 1, 3, 2, 1, 2, 3, 4, 3, 1, 1};
        for (int what = 0; what <= 10; what++) {
            due("22 count(" + what + ")", x.count(what), told[what]);
        }
        for (int what : new int[] {-1, 11, LEAST, MOST}) {
            due("22 what " + what, x.count(what), OUTSIDE);
        }
        due("22 OUTSIDE without DUNES", new DuneMaps().count(11), OUTSIDE);
        x = with("55555555>", WALKER, 0);
        x.map(0, ON, 2);
        x.step(0, ON);
        due("22 steps of the first", x.count(6), 1);
        due("22 a good map", x.count(4), 1);
        Check.write(x, "55555555>");
        x.dunes();
        due("22 gone with him", x.count(4), 0);
    }

    private static long folded(int... numbers) {
        long h = 881;
        for (int number : numbers) {
            h = 31 * h + number;
        }
        return h;
    }

    private static void promise23() {
        DuneMaps x = new DuneMaps();
        due("23 new", x.digest(), folded(0, 0, 0, 0, 0, 0, 0, 0, 0, 0, 0));
        x.letter('z');
        x.letter(1);
        due("23 letters", x.digest(), folded('z', 1, 0, 0, 0, 0, 0, 0, 0, 0, 2, 0, 0));
        x.blank();
        Check.write(x, "00090000>");
        x.dunes();
        due("23 dunes", x.digest(), folded(0, 0, 0, 0, 0, 0, 0, 0, 0, 9, 1, 0, 0, 0, 0, 0, 0, 0,
            0, 0, 0, 0, 0, 0, 0, NONE, NONE, NONE, NONE, 9, 1, 0, 0, 0, 0, 0, 1, 0, 1, 0));
        x.walker(CAMEL, 2);
        x.walker(BRIDE, 2);
        x.map(0, ON, 2);
        x.map(1, ON, 1);
        Check.write(x, "00090000");
        x.was();
        x.letter('<');
        // Only a BRIDE (128 walks), or others that reach CELL 3 too late, leave all as it is.
        int left = 128 + 4 * 2 * 28;
        due("23 all", x.digest(), folded(
            0, 0, 0, 0, 0, 0, 0, 0, 2, 9, 1, 0, 0, 0, 0, 0, 0, 0, 0, 0, 0, 0, 0, 0,
            2, 1, 0, NONE, NONE,
            1, 2, 2, 0, 1, 1, 1, 2,
            2, 2, 0, 0, 1, 1, 1, 1,
            left, 0, '<',
            9, 1, 2, 2, 2, 0, 0, 1, 1, 1, 1));
        due("23 it changes nothing", x.digest(), x.digest());
    }

    private static void refusalsChangeNothing() {
        DuneMaps x = with(HILLS, WALKER, 1);
        everythingThatWas(x);
        Check.write(x, "0000>0000000");
        long before = x.digest();
        x.letter('0');
        x.letter(127);
        x.fault(2);
        x.dunes();
        x.was();
        x.cell(8, 0);
        x.walker(5, 0);
        x.walker(0, 8);
        x.about(9, 9);
        x.as(0, 9);
        x.step(0, 2);
        x.map(0, 2, 1);
        x.map(0, 1, 9);
        x.go(1);
        x.order(1);
        x.feet(0, 8, 0, 0);
        x.who(2);
        x.moons(0, 0, 0);
        x.count(11);
        due("refusals change nothing", x.digest(), before);
    }
}
