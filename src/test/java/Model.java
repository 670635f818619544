import java.math.BigInteger;
import java.util.ArrayList;
import java.util.Arrays;
import java.util.List;

/**
 * The document once more, written apart from DuneMaps and in the slowest, plainest way: states are
 * copied, every order, path and walk is tried from its beginning.
 */
final class Model {
    static final int NONE = -1, UNKNOWN = -101, OUTSIDE = -102, STATE = -103, FULL = -104;

    static final class Man {
        int kind, cell, steps;
        int way = -1;
        List<Integer> map;

        Man copy() {
            Man m = new Man();
            m.kind = kind;
            m.cell = cell;
            m.steps = steps;
            m.way = way;
            m.map = map;
            return m;
        }
    }

    static final class Scene {
        int[] h;
        char wind;
        int nights;
        List<Man> men = new ArrayList<>();

        Scene copy() {
            Scene s = new Scene();
            s.h = h.clone();
            s.wind = wind;
            s.nights = nights;
            for (Man m : men) {
                s.men.add(m.copy());
            }
            return s;
        }
    }

    private String page = "";
    private Scene now;
    private Scene image;
    private int[] before;
    private int read;

    static int next(int cell) {
        return cell == 7 ? 0 : cell + 1;
    }

    static int previous(int cell) {
        return cell == 0 ? 7 : cell - 1;
    }

    static int lee(int cell, char wind) {
        return wind == '>' ? next(cell) : previous(cell);
    }

    static int luff(int cell, char wind) {
        return wind == '>' ? previous(cell) : next(cell);
    }

    static boolean crest(int[] h, int c) {
        return h[c] > h[next(c)] && h[c] > h[previous(c)];
    }

    static boolean hollow(int[] h, int c) {
        return h[c] < h[next(c)] && h[c] < h[previous(c)];
    }

    static int weight(int kind) {
        return kind == 0 || kind == 3 ? 1 : kind == 1 ? 2 : kind == 2 ? 0 : 4;
    }

    static int[] trodden(int[] h, char wind, int c, int kind) {
        int[] a = h.clone();
        int side = crest(h, c) ? lee(c, wind) : luff(c, wind);
        if (kind == 3) {
            side = crest(h, c) ? luff(c, wind) : lee(c, wind);
        }
        if (crest(h, c)) {
            int sand = Math.min(weight(kind), h[c]);
            a[c] = h[c] - sand;
            a[side] = h[side] + sand;
        } else if (hollow(h, c)) {
            int sand = Math.min(weight(kind), h[side]);
            a[c] = h[c] + sand;
            a[side] = h[side] - sand;
        }
        return a;
    }

    static int[] afterNight(int[] h, char wind) {
        int[] a = h.clone();
        for (int c = 0; c < 8; c++) {
            if (crest(h, c)) {
                a[c]--;
                a[lee(c, wind)]++;
            }
        }
        return a;
    }

    static int crests(int[] h) {
        int n = 0;
        for (int c = 0; c < 8; c++) {
            n += crest(h, c) ? 1 : 0;
        }
        return n;
    }

    /** The CELLS that so many STEPS lead to. */
    static List<Integer> path(int cell, int way, int steps) {
        List<Integer> cells = new ArrayList<>();
        for (int i = 0; i < steps; i++) {
            cell = way == 1 ? next(cell) : previous(cell);
            cells.add(cell);
        }
        return cells;
    }

    static List<Integer> read(int[] h, int cell, int way, int steps) {
        List<Integer> told = new ArrayList<>();
        for (int c : path(cell, way, steps)) {
            told.add(h[c]);
        }
        return told;
    }

    static boolean good(int[] h, Man m) {
        return m.map != null && read(h, m.cell, m.way, m.map.size()).equals(m.map);
    }

    static int[] afterWalk(int[] h, char wind, int kind, int cell, int way, int steps) {
        for (int c : path(cell, way, steps)) {
            h = trodden(h, wind, c, kind);
        }
        return h;
    }

    int letter(int code) {
        if (code < 1 || code > 126) {
            return OUTSIDE;
        }
        if (page.length() == 12) {
            return FULL;
        }
        page += (char) code;
        return page.length();
    }

    int blank() {
        int n = page.length();
        page = "";
        return n;
    }

    int fault(int sort) {
        if (sort != 0 && sort != 1) {
            return OUTSIDE;
        }
        for (int n = page.length(); n >= 0; n--) {
            String head = page.substring(0, n);
            String filled = head + "00000000>".substring(Math.min(9, n));
            boolean begins = sort == 0
                ? n <= 9 && filled.matches("[0-9]{8}[<>]")
                : n <= 8 && filled.substring(0, 8).matches("[0-9]{8}");
            if (begins) {
                return n;
            }
        }
        throw new IllegalStateException("the empty text begins every text");
    }

    int dunes() {
        if (!page.matches("[0-9]{8}[<>]")) {
            return STATE;
        }
        now = new Scene();
        now.h = digits();
        now.wind = page.charAt(8);
        image = null;
        before = null;
        page = "";
        read++;
        return Arrays.stream(now.h).sum();
    }

    private int[] digits() {
        int[] h = new int[8];
        for (int c = 0; c < 8; c++) {
            h[c] = Integer.parseInt(page.substring(c, c + 1));
        }
        return h;
    }

    int cell(int cell, int what) {
        if (now == null || cell < 0 || cell > 7) {
            return UNKNOWN;
        }
        if (what == 0) {
            return now.h[cell];
        }
        if (what == 1) {
            return crest(now.h, cell) ? 1 : hollow(now.h, cell) ? 2 : 0;
        }
        return what == 2 ? (int) now.men.stream().filter(m -> m.cell == cell).count() : OUTSIDE;
    }

    int wind(boolean on) {
        if (now == null) {
            return STATE;
        }
        int was = now.wind == '>' ? 1 : 0;
        now.wind = on ? '>' : '<';
        return was;
    }

    int night() {
        if (now == null) {
            return STATE;
        }
        int n = crests(now.h);
        now.h = afterNight(now.h, now.wind);
        now.nights++;
        return n;
    }

    int walker(int kind, int cell) {
        if (kind < 0 || kind > 4) {
            return OUTSIDE;
        }
        if (now == null || cell < 0 || cell > 7) {
            return UNKNOWN;
        }
        if (now.men.size() == 4) {
            return FULL;
        }
        Man m = new Man();
        m.kind = kind;
        m.cell = cell;
        now.men.add(m);
        return now.men.size() - 1;
    }

    private Man man(int walker) {
        return now == null || walker < 0 || walker >= now.men.size() ? null : now.men.get(walker);
    }

    int about(int walker, int what) {
        Man m = man(walker);
        if (m == null) {
            return UNKNOWN;
        }
        if (what < 0 || what > 7) {
            return OUTSIDE;
        }
        int[] told = {m.kind, m.cell, weight(m.kind), m.steps, m.map == null ? 0 : 1,
            good(now.h, m) ? 1 : 0, m.map == null ? NONE : m.way,
            m.map == null ? NONE : m.map.size()};
        return told[what];
    }

    int as(int walker, int kind) {
        Man m = man(walker);
        if (m == null) {
            return UNKNOWN;
        }
        if (kind < 0 || kind > 4) {
            return OUTSIDE;
        }
        List<Integer> is = m.kind == 4 ? List.of(0, 1, 4) : List.of(0, m.kind);
        return is.contains(kind) ? walker : NONE;
    }

    int step(int walker, int way) {
        Man m = man(walker);
        if (m == null) {
            return UNKNOWN;
        }
        if (way != 0 && way != 1) {
            return OUTSIDE;
        }
        return walk(m, way);
    }

    private int walk(Man m, int way) {
        m.cell = path(m.cell, way, 1).get(0);
        m.steps++;
        int[] after = trodden(now.h, now.wind, m.cell, m.kind);
        int moved = Math.abs(after[m.cell] - now.h[m.cell]);
        now.h = after;
        return moved;
    }

    int map(int walker, int way, int steps) {
        Man m = man(walker);
        if (m == null) {
            return UNKNOWN;
        }
        if (way < 0 || way > 1 || steps < 1 || steps > 8) {
            return OUTSIDE;
        }
        m.way = way;
        m.map = read(now.h, m.cell, way, steps);
        return m.map.stream().mapToInt(i -> i).sum();
    }

    int go(int walker) {
        Man m = man(walker);
        if (m == null) {
            return UNKNOWN;
        }
        if (m.map == null) {
            return STATE;
        }
        boolean good = good(now.h, m);
        for (int i = m.map.size(); i > 0; i--) {
            walk(m, m.way);
        }
        m.map = null;
        return good ? 1 : 0;
    }

    /** How many are GOOD, and behind it those who go. */
    private List<Integer> bestOrder() {
        List<List<Integer>> all = new ArrayList<>();
        orders(new ArrayList<>(), all);
        List<Integer> best = null;
        int most = -1;
        for (List<Integer> order : all) {
            int[] h = now.h;
            int n = 0;
            for (int i : order) {
                Man m = now.men.get(i);
                n += good(h, m) ? 1 : 0;
                h = afterWalk(h, now.wind, m.kind, m.cell, m.way, m.map.size());
            }
            if (n > most) {
                most = n;
                best = order;
            }
        }
        List<Integer> told = new ArrayList<>(best);
        told.add(0, most);
        return told;
    }

    private void orders(List<Integer> head, List<List<Integer>> all) {
        boolean whole = true;
        for (int i = 0; i < now.men.size(); i++) {
            if (now.men.get(i).map != null && !head.contains(i)) {
                whole = false;
                List<Integer> longer = new ArrayList<>(head);
                longer.add(i);
                orders(longer, all);
            }
        }
        if (whole) {
            all.add(head);
        }
    }

    int order(int what) {
        if (what != 0 && (what < 10 || what > 13)) {
            return OUTSIDE;
        }
        if (now == null) {
            return STATE;
        }
        List<Integer> told = bestOrder();
        int at = what == 0 ? 0 : what - 9;
        return at < told.size() ? told.get(at) : NONE;
    }

    int feet(int walker, int cell, int height, int what) {
        Man m = man(walker);
        if (m == null || cell < 0 || cell > 7) {
            return UNKNOWN;
        }
        if (height < 0 || height > 9 || what < 0 || what > 1) {
            return OUTSIDE;
        }
        for (int n = 0; n <= 8; n++) {
            // Counted up, the first STEP is the highest digit of a number of n binary digits.
            for (int number = 0; number < 1 << n; number++) {
                int[] h = now.h;
                int at = m.cell;
                int bits = 0;
                for (int i = 0; i < n; i++) {
                    int way = number >> (n - 1 - i) & 1;
                    bits += way * (1 << i);
                    at = path(at, way, 1).get(0);
                    h = trodden(h, now.wind, at, m.kind);
                }
                if (h[cell] <= height) {
                    return what == 0 ? n : bits;
                }
            }
        }
        return NONE;
    }

    int was() {
        if (now == null || !page.matches("[0-9]{8}")) {
            return STATE;
        }
        before = digits();
        page = "";
        return Arrays.stream(before).sum();
    }

    int who(int what) {
        if (what != 0 && what != 1) {
            return OUTSIDE;
        }
        if (before == null) {
            return STATE;
        }
        int n = 0;
        int least = NONE;
        for (int code = 639; code >= 0; code--) {
            int[] h = afterWalk(before, now.wind, code / 128, code % 128 / 16, code % 16 / 8,
                code % 8 + 1);
            if (Arrays.equals(h, now.h)) {
                n++;
                least = code;
            }
        }
        return what == 0 ? n : least;
    }

    int moons(int nights, int seed, int what) {
        if (nights < 1 || nights > 60 || seed < 0 || what < 0 || what > 2) {
            return OUTSIDE;
        }
        if (now == null) {
            return STATE;
        }
        int[] h = now.h;
        BigInteger s = BigInteger.valueOf(seed);
        int moved = 0;
        for (int i = 0; i < nights; i++) {
            s = drawn(s);
            int cell = s.divide(BigInteger.valueOf(65536)).intValue() % 8;
            s = drawn(s);
            int kind = s.divide(BigInteger.valueOf(65536)).intValue() % 5;
            int[] after = trodden(h, now.wind, cell, kind);
            moved += Arrays.equals(after, h) ? 0 : 1;
            h = afterNight(after, now.wind);
        }
        return what == 0 ? moved : what == 1 ? Arrays.stream(h).max().getAsInt() : s.intValue();
    }

    private static BigInteger drawn(BigInteger seed) {
        return seed.multiply(BigInteger.valueOf(1103515245)).add(BigInteger.valueOf(12345))
            .mod(BigInteger.TWO.pow(31));
    }

    int image() {
        if (now == null) {
            return STATE;
        }
        image = now.copy();
        return now.nights;
    }

    int restore() {
        if (image == null) {
            return STATE;
        }
        now = image.copy();
        return now.nights;
    }

    int count(int what) {
        if (what < 0 || what > 10) {
            return OUTSIDE;
        }
        if (what >= 8) {
            return what == 8 ? page.length() : what == 9 ? read : before == null ? 0 : 1;
        }
        if (now == null) {
            return 0;
        }
        int[] told = {Arrays.stream(now.h).sum(), now.wind == '>' ? 1 : 0, now.men.size(),
            (int) now.men.stream().filter(m -> m.map != null).count(),
            (int) now.men.stream().filter(m -> good(now.h, m)).count(), now.nights,
            now.men.stream().mapToInt(m -> m.steps).sum(), crests(now.h)};
        return told[what];
    }

    long digest() {
        List<Integer> all = new ArrayList<>();
        for (int cell = 0; now != null && cell < 8; cell++) {
            all.addAll(List.of(cell(cell, 0), cell(cell, 1), cell(cell, 2)));
        }
        if (now != null) {
            all.addAll(List.of(order(0), order(10), order(11), order(12), order(13)));
            for (int i = 0; i < now.men.size(); i++) {
                for (int what = 0; what <= 7; what++) {
                    all.add(about(i, what));
                }
            }
        }
        if (before != null) {
            all.addAll(List.of(who(0), who(1)));
        }
        for (char c : page.toCharArray()) {
            all.add((int) c);
        }
        for (int what = 0; what <= 10; what++) {
            all.add(count(what));
        }
        BigInteger h = BigInteger.valueOf(881);
        for (int number : all) {
            h = h.multiply(BigInteger.valueOf(31)).add(BigInteger.valueOf(number));
        }
        return h.longValue();
    }
}
