/** Maps of shifting dunes, each good for one journey: whoever walks moves what he walks on. */
public final class DuneMaps {
    public static final int NONE = -1, UNKNOWN = -101, OUTSIDE = -102, STATE = -103, FULL = -104;

    private static final int CELLS = 8;
    /** Keeps any number inside the ring, so that no index can leave a row of CELLS. */
    private static final int RING = CELLS - 1;
    private static final int MOST_WALKERS = 4;
    private static final int MOST_STEPS = 8;
    private static final int MOST_LETTERS = 12;
    private static final int MOST_NIGHTS = 60;
    private static final int HIGHEST_CODE = 126;
    private static final int HIGHEST_DIGIT = 9;

    private static final int KINDS = 5;
    private static final int ANY_WALKER = 0, CAMEL = 1, GUIDE = 3, CARAVAN = 4;
    private static final int[] WEIGHTS = {1, 2, 0, 1, 4};

    private static final int LEVEL = 0, CREST = 1, HOLLOW = 2;
    private static final int BACK = 0, ON = 1;
    private static final int DUNES_TEXT = 0, HEIGHTS_TEXT = 1;
    private static final int FIRST_GOER = 10;
    /** The rest by 2 to the 31: wrapped products keep the lower 31 bits. */
    private static final int REST_OF_SEED = 0x7fffffff;

    private final Page page = new Page();
    private final Land land = new Land();
    private final Land kept = new Land();
    private final Sand before = new Sand();
    private final Sand tried = new Sand();
    private final Ordering ordering = new Ordering();
    private final Footing footing = new Footing();
    private final Dusk dusk = new Dusk();
    private boolean hasDunes;
    private boolean hasImage;
    private boolean hasBefore;
    private int timesRead;

    public DuneMaps() {
    }

    // ---- texts

    public int letter(int code) {
        if (code < 1 || code > HIGHEST_CODE) {
            return OUTSIDE;
        }
        return page.append(code) ? page.length : FULL;
    }

    public int blank() {
        int had = page.length;
        page.length = 0;
        return had;
    }

    public int fault(int sort) {
        if (sort != DUNES_TEXT && sort != HEIGHTS_TEXT) {
            return OUTSIDE;
        }
        return page.firstFault(sort);
    }

    public int dunes() {
        if (!page.isWhole(DUNES_TEXT)) {
            return STATE;
        }
        land.empty();
        page.readHeights(land.sand);
        land.sand.blowsOn = page.tellsWindOn();
        page.length = 0;
        hasDunes = true;
        hasImage = false;
        hasBefore = false;
        timesRead++;
        return land.sand.sum();
    }

    public int cell(int cell, int what) {
        if (!isCell(cell)) {
            return UNKNOWN;
        }
        switch (what) {
            case 0: return land.sand.heightAt(cell);
            case 1: return land.sand.shapeAt(cell);
            case 2: return land.walkersAt(cell);
            default: return OUTSIDE;
        }
    }

    public int wind(boolean on) {
        if (!hasDunes) {
            return STATE;
        }
        int was = asNumber(land.sand.blowsOn);
        land.sand.blowsOn = on;
        return was;
    }

    public int night() {
        if (!hasDunes) {
            return STATE;
        }
        land.nights++;
        return land.sand.passNight();
    }

    // ---- walkers

    public int walker(int kind, int cell) {
        if (!isKind(kind)) {
            return OUTSIDE;
        }
        if (!isCell(cell)) {
            return UNKNOWN;
        }
        return land.arrive(kind, cell);
    }

    public int about(int walker, int what) {
        Walker one = land.named(walker);
        if (one == null) {
            return UNKNOWN;
        }
        switch (what) {
            case 0: return one.kind;
            case 1: return one.place;
            case 2: return weightOf(one.kind);
            case 3: return one.stepsGone;
            case 4: return asNumber(one.hasMap());
            case 5: return asNumber(one.hasGoodMap(land.sand));
            case 6: return one.hasMap() ? one.mapWay : NONE;
            case 7: return one.hasMap() ? one.mapSteps : NONE;
            default: return OUTSIDE;
        }
    }

    public int as(int walker, int kind) {
        Walker one = land.named(walker);
        if (one == null) {
            return UNKNOWN;
        }
        if (!isKind(kind)) {
            return OUTSIDE;
        }
        boolean such = kind == ANY_WALKER || kind == one.kind
            || (kind == CAMEL && one.kind == CARAVAN);
        return such ? walker : NONE;
    }

    public int step(int walker, int way) {
        Walker one = land.named(walker);
        if (one == null) {
            return UNKNOWN;
        }
        if (!isWay(way)) {
            return OUTSIDE;
        }
        return one.stepOn(land.sand, way);
    }

    public int map(int walker, int way, int steps) {
        Walker one = land.named(walker);
        if (one == null) {
            return UNKNOWN;
        }
        if (!isWay(way) || steps < 1 || steps > MOST_STEPS) {
            return OUTSIDE;
        }
        return one.drawMap(land.sand, way, steps);
    }

    public int go(int walker) {
        Walker one = land.named(walker);
        if (one == null) {
            return UNKNOWN;
        }
        if (!one.hasMap()) {
            return STATE;
        }
        int good = asNumber(one.hasGoodMap(land.sand));
        one.goByMap(land.sand);
        return good;
    }

    // ---- what would be

    public int order(int what) {
        boolean asksGoer = what >= FIRST_GOER && what < FIRST_GOER + MOST_WALKERS;
        if (what != 0 && !asksGoer) {
            return OUTSIDE;
        }
        if (!hasDunes) {
            return STATE;
        }
        ordering.search(land);
        return asksGoer ? ordering.goerAt(what - FIRST_GOER) : ordering.mostGood;
    }

    public int feet(int walker, int cell, int height, int what) {
        Walker one = land.named(walker);
        if (one == null || !isCell(cell)) {
            return UNKNOWN;
        }
        if (height < 0 || height > HIGHEST_DIGIT || what < 0 || what > 1) {
            return OUTSIDE;
        }
        footing.search(land.sand, one, cell, height);
        return what == 0 ? footing.fewest : footing.bits;
    }

    // ---- dusk

    public int was() {
        if (!hasDunes || !page.isWhole(HEIGHTS_TEXT)) {
            return STATE;
        }
        page.readHeights(before);
        page.length = 0;
        hasBefore = true;
        return before.sum();
    }

    public int who(int what) {
        if (what < 0 || what > 1) {
            return OUTSIDE;
        }
        if (!hasBefore) {
            return STATE;
        }
        dusk.search(before, land.sand, tried);
        return what == 0 ? dusk.found : dusk.least;
    }

    public int moons(int nights, int seed, int what) {
        if (nights < 1 || nights > MOST_NIGHTS || seed < 0 || what < 0 || what > 2) {
            return OUTSIDE;
        }
        if (!hasDunes) {
            return STATE;
        }
        tried.copyFrom(land.sand);
        int drawn = seed;
        int moves = 0;
        for (int night = 0; night < nights; night++) {
            drawn = nextSeed(drawn);
            int trodden = draw(drawn, CELLS);
            drawn = nextSeed(drawn);
            if (tried.tread(trodden, draw(drawn, KINDS)) > 0) {
                moves++;
            }
            tried.passNight();
        }
        switch (what) {
            case 0: return moves;
            case 1: return tried.highest();
            default: return drawn;
        }
    }

    // ---- what is told of all

    public int image() {
        if (!hasDunes) {
            return STATE;
        }
        kept.copyFrom(land);
        hasImage = true;
        return land.nights;
    }

    public int restore() {
        if (!hasImage) {
            return STATE;
        }
        land.copyFrom(kept);
        return land.nights;
    }

    public int count(int what) {
        switch (what) {
            case 0: return land.sand.sum();
            case 1: return asNumber(land.sand.blowsOn);
            case 2: return land.walkerCount;
            case 3: return land.maps();
            case 4: return land.goodMaps();
            case 5: return land.nights;
            case 6: return land.stepsGone();
            case 7: return Integer.bitCount(land.sand.crests());
            case 8: return page.length;
            case 9: return timesRead;
            case 10: return asNumber(hasBefore);
            default: return OUTSIDE;
        }
    }

    public long digest() {
        long h = 881;
        if (hasDunes) {
            h = withOrder(withCells(h));
        }
        for (int walker = 0; walker < land.walkerCount; walker++) {
            for (int what = 0; what <= 7; what++) {
                h = with(h, about(walker, what));
            }
        }
        if (hasBefore) {
            dusk.search(before, land.sand, tried);
            h = with(with(h, dusk.found), dusk.least);
        }
        for (int place = 0; place < page.length; place++) {
            h = with(h, page.codeAt(place));
        }
        for (int what = 0; what <= 10; what++) {
            h = with(h, count(what));
        }
        return h;
    }

    private long withCells(long h) {
        for (int cell = 0; cell < CELLS; cell++) {
            for (int what = 0; what <= 2; what++) {
                h = with(h, cell(cell, what));
            }
        }
        return h;
    }

    private long withOrder(long h) {
        ordering.search(land);
        h = with(h, ordering.mostGood);
        for (int turn = 0; turn < MOST_WALKERS; turn++) {
            h = with(h, ordering.goerAt(turn));
        }
        return h;
    }

    private static long with(long h, int number) {
        return 31 * h + number;
    }

    private boolean isCell(int cell) {
        return hasDunes && cell >= 0 && cell < CELLS;
    }

    private static boolean isKind(int kind) {
        return kind >= 0 && kind < KINDS;
    }

    private static boolean isWay(int way) {
        return way == BACK || way == ON;
    }

    private static int asNumber(boolean so) {
        return so ? 1 : 0;
    }

    private static int weightOf(int kind) {
        return kind < 0 || kind >= WEIGHTS.length ? 0 : WEIGHTS[kind];
    }

    private static int beside(int cell, int way) {
        return (way == ON ? cell + 1 : cell - 1) & RING;
    }

    private static int nextSeed(int seed) {
        return (1103515245 * seed + 12345) & REST_OF_SEED;
    }

    /** Callers give CELLS or KINDS; the test keeps any other number from dividing by 0. */
    private static int draw(int seed, int of) {
        return of < 1 ? 0 : (seed >> 16) % of;
    }

    /** THE PAGE: the letters that have come and were not read yet. */
    private static final class Page {
        private final int[] codes = new int[MOST_LETTERS];
        int length;

        boolean append(int code) {
            if (length < 0 || length >= codes.length) {
                return false;
            }
            codes[length] = code;
            length++;
            return true;
        }

        int codeAt(int place) {
            return place < 0 || place >= codes.length ? 0 : codes[place];
        }

        int firstFault(int sort) {
            for (int place = 0; place < length; place++) {
                if (!fits(codeAt(place), place, sort)) {
                    return place;
                }
            }
            return length;
        }

        boolean isWhole(int sort) {
            int due = sort == DUNES_TEXT ? CELLS + 1 : CELLS;
            return length == due && firstFault(sort) == due;
        }

        void readHeights(Sand sand) {
            for (int cell = 0; cell < CELLS; cell++) {
                sand.setHeight(cell, codeAt(cell) - '0');
            }
        }

        boolean tellsWindOn() {
            return codeAt(CELLS) == '>';
        }

        private static boolean fits(int code, int place, int sort) {
            if (place < CELLS) {
                return code >= '0' && code <= '9';
            }
            return place == CELLS && sort == DUNES_TEXT && (code == '>' || code == '<');
        }
    }

    /** The HEIGHTS of all CELLS, and the WIND over them. */
    private static final class Sand {
        private final int[] heights = new int[CELLS];
        boolean blowsOn;

        int heightAt(int cell) {
            return heights[cell & RING];
        }

        void setHeight(int cell, int height) {
            heights[cell & RING] = height;
        }

        void copyFrom(Sand other) {
            copyHeights(other);
            blowsOn = other.blowsOn;
        }

        void copyHeights(Sand other) {
            for (int cell = 0; cell < CELLS; cell++) {
                heights[cell] = other.heights[cell];
            }
        }

        boolean isAsHighAs(Sand other) {
            for (int cell = 0; cell < CELLS; cell++) {
                if (heights[cell] != other.heights[cell]) {
                    return false;
                }
            }
            return true;
        }

        int sum() {
            int sum = 0;
            for (int cell = 0; cell < CELLS; cell++) {
                sum += heights[cell];
            }
            return sum;
        }

        int highest() {
            int highest = 0;
            for (int cell = 0; cell < CELLS; cell++) {
                highest = Math.max(highest, heights[cell]);
            }
            return highest;
        }

        int shapeAt(int cell) {
            int here = heights[cell & RING];
            int behind = heights[(cell - 1) & RING];
            int ahead = heights[(cell + 1) & RING];
            if (here > behind && here > ahead) {
                return CREST;
            }
            return here < behind && here < ahead ? HOLLOW : LEVEL;
        }

        /** A bit for each CELL that is a CREST. */
        int crests() {
            int crests = 0;
            for (int cell = 0; cell < CELLS; cell++) {
                if (shapeAt(cell) == CREST) {
                    crests |= 1 << cell;
                }
            }
            return crests;
        }

        /** How many CRESTS there were; they are looked up first, as all lose their sand at once. */
        int passNight() {
            int crests = crests();
            for (int cell = 0; cell < CELLS; cell++) {
                if ((crests >> cell & 1) == 1) {
                    moveSand(cell, leeOf(cell), 1);
                }
            }
            return Integer.bitCount(crests);
        }

        /** How much sand moved. */
        int tread(int cell, int kind) {
            int shape = shapeAt(cell);
            if (shape == LEVEL) {
                return 0;
            }
            // A CREST gives to its LEE and a HOLLOW takes of its LUFF; a GUIDE turns both round.
            boolean withLee = (shape == CREST) != (kind == GUIDE);
            int other = withLee ? leeOf(cell) : luffOf(cell);
            if (shape == CREST) {
                return moveSand(cell, other, weightOf(kind));
            }
            return moveSand(other, cell, weightOf(kind));
        }

        private int moveSand(int from, int to, int most) {
            int moved = Math.min(most, heights[from & RING]);
            heights[from & RING] -= moved;
            heights[to & RING] += moved;
            return moved;
        }

        private int leeOf(int cell) {
            return (blowsOn ? cell + 1 : cell - 1) & RING;
        }

        private int luffOf(int cell) {
            return (blowsOn ? cell - 1 : cell + 1) & RING;
        }
    }

    /** One WALKER of any KIND, and his MAP; mapSteps is 0 while he has none. */
    private static final class Walker {
        private final int[] told = new int[MOST_STEPS];
        int kind;
        int place;
        int stepsGone;
        int mapWay;
        int mapSteps;

        void arrive(int asKind, int cell) {
            kind = asKind;
            place = cell;
            stepsGone = 0;
            mapWay = BACK;
            mapSteps = 0;
        }

        void copyFrom(Walker other) {
            kind = other.kind;
            place = other.place;
            stepsGone = other.stepsGone;
            mapWay = other.mapWay;
            mapSteps = other.mapSteps;
            for (int i = 0; i < MOST_STEPS; i++) {
                told[i] = other.told[i];
            }
        }

        boolean hasMap() {
            return mapSteps > 0;
        }

        /** The sum of the HEIGHTS that the MAP tells. */
        int drawMap(Sand sand, int way, int steps) {
            mapWay = way;
            mapSteps = steps;
            int sum = 0;
            int cell = place;
            for (int i = 0; i < steps && i < MOST_STEPS; i++) {
                cell = beside(cell, way);
                told[i] = sand.heightAt(cell);
                sum += told[i];
            }
            return sum;
        }

        boolean hasGoodMap(Sand sand) {
            int cell = place;
            for (int i = 0; i < mapSteps && i < MOST_STEPS; i++) {
                cell = beside(cell, mapWay);
                if (told[i] != sand.heightAt(cell)) {
                    return false;
                }
            }
            return hasMap();
        }

        /** How much sand moved. */
        int stepOn(Sand sand, int way) {
            place = beside(place, way);
            stepsGone++;
            return sand.tread(place, kind);
        }

        void goByMap(Sand sand) {
            for (int i = 0; i < mapSteps; i++) {
                stepOn(sand, mapWay);
            }
            mapSteps = 0;
        }

        /** Treads the sand as goByMap does, but he stays where he is. */
        void wouldGo(Sand sand) {
            int cell = place;
            for (int i = 0; i < mapSteps; i++) {
                cell = beside(cell, mapWay);
                sand.tread(cell, kind);
            }
        }
    }

    /** All that an IMAGE keeps. */
    private static final class Land {
        final Sand sand = new Sand();
        private final Walker[] walkers = new Walker[MOST_WALKERS];
        int walkerCount;
        int nights;

        Land() {
            for (int i = 0; i < MOST_WALKERS; i++) {
                walkers[i] = new Walker();
            }
        }

        void empty() {
            walkerCount = 0;
            nights = 0;
        }

        void copyFrom(Land other) {
            sand.copyFrom(other.sand);
            walkerCount = other.walkerCount;
            nights = other.nights;
            for (int i = 0; i < MOST_WALKERS; i++) {
                walkers[i].copyFrom(other.walkers[i]);
            }
        }

        /** null if the number names nobody. */
        Walker named(int number) {
            boolean known = number >= 0 && number < walkerCount && number < MOST_WALKERS;
            return known ? walkers[number] : null;
        }

        /** His number, or FULL. */
        int arrive(int kind, int cell) {
            if (walkerCount < 0 || walkerCount >= MOST_WALKERS) {
                return FULL;
            }
            walkers[walkerCount].arrive(kind, cell);
            walkerCount++;
            return walkerCount - 1;
        }

        int walkersAt(int cell) {
            int there = 0;
            for (int i = 0; i < walkerCount && i < MOST_WALKERS; i++) {
                there += asNumber(walkers[i].place == cell);
            }
            return there;
        }

        int maps() {
            int maps = 0;
            for (int i = 0; i < walkerCount && i < MOST_WALKERS; i++) {
                maps += asNumber(walkers[i].hasMap());
            }
            return maps;
        }

        int goodMaps() {
            int good = 0;
            for (int i = 0; i < walkerCount && i < MOST_WALKERS; i++) {
                good += asNumber(walkers[i].hasGoodMap(sand));
            }
            return good;
        }

        int stepsGone() {
            int steps = 0;
            for (int i = 0; i < walkerCount && i < MOST_WALKERS; i++) {
                steps += walkers[i].stepsGone;
            }
            return steps;
        }
    }

    /** The search for ORDER: every order is tried, the first by numbers first. */
    private static final class Ordering {
        /** The sand as it is when so many have gone. */
        private final Sand[] sands = new Sand[MOST_WALKERS + 1];
        private final int[] turns = new int[MOST_WALKERS];
        private final int[] best = new int[MOST_WALKERS];
        private int goers;
        int mostGood;

        Ordering() {
            for (int i = 0; i <= MOST_WALKERS; i++) {
                sands[i] = new Sand();
            }
        }

        int goerAt(int turn) {
            return turn < 0 || turn >= goers || turn >= best.length ? NONE : best[turn];
        }

        void search(Land land) {
            goers = land.maps();
            mostGood = NONE;
            sands[0].copyFrom(land.sand);
            tryTurn(land, 0, 0, 0);
        }

        /** gone has a bit for each who has a turn already; good is how many of their MAPS held. */
        private void tryTurn(Land land, int turn, int gone, int good) {
            // Only a better order counts, as of like ones the first is kept.
            if (turn < 0 || good + goers - turn <= mostGood) {
                return;
            }
            if (turn >= goers || turn >= MOST_WALKERS) {
                keep(good);
                return;
            }
            for (int number = 0; number < land.walkerCount; number++) {
                Walker next = land.named(number);
                if (next != null && next.hasMap() && (gone >> number & 1) == 0) {
                    sands[turn + 1].copyFrom(sands[turn]);
                    int more = asNumber(next.hasGoodMap(sands[turn]));
                    next.wouldGo(sands[turn + 1]);
                    turns[turn] = number;
                    tryTurn(land, turn + 1, gone | 1 << number, good + more);
                }
            }
        }

        private void keep(int good) {
            mostGood = good;
            for (int i = 0; i < MOST_WALKERS; i++) {
                best[i] = turns[i];
            }
        }
    }

    /** The search for FEET: back is tried ahead of on, so that the first by numbers is met first. */
    private static final class Footing {
        /** The sand as it is behind so many STEPS. */
        private final Sand[] sands = new Sand[MOST_STEPS + 1];
        private int kind;
        private int goal;
        private int goalHeight;
        private int stepsLeft;
        int fewest;
        int bits;

        Footing() {
            for (int i = 0; i <= MOST_STEPS; i++) {
                sands[i] = new Sand();
            }
        }

        void search(Sand sand, Walker walker, int cell, int height) {
            kind = walker.kind;
            goal = cell;
            goalHeight = height;
            stepsLeft = MOST_STEPS;
            fewest = NONE;
            bits = NONE;
            sands[0].copyFrom(sand);
            tryFrom(walker.place, 0, 0);
        }

        private void tryFrom(int place, int steps, int path) {
            // Behind a find only fewer STEPS count, as of like ones the first is kept.
            if (steps < 0 || steps > stepsLeft || steps > MOST_STEPS) {
                return;
            }
            if (sands[steps].heightAt(goal) <= goalHeight) {
                fewest = steps;
                bits = path;
                stepsLeft = steps - 1;
                return;
            }
            for (int way = BACK; way <= ON; way++) {
                if (steps < stepsLeft && steps < MOST_STEPS) {
                    int next = beside(place, way);
                    sands[steps + 1].copyFrom(sands[steps]);
                    sands[steps + 1].tread(next, kind);
                    tryFrom(next, steps + 1, path | way << steps);
                }
            }
        }
    }

    /** The search for WHO, in the order of the numbers that stand for the walks. */
    private static final class Dusk {
        int found;
        int least;

        void search(Sand before, Sand now, Sand tried) {
            found = 0;
            least = NONE;
            for (int walk = 0; walk < KINDS * CELLS * 2; walk++) {
                tried.copyHeights(before);
                tried.blowsOn = now.blowsOn;
                tryWalk(walk, now, tried);
            }
        }

        /** walk is WAY and 2 times the CELL and 16 times the KIND. */
        private void tryWalk(int walk, Sand now, Sand tried) {
            int way = walk & 1;
            int cell = walk >> 1 & RING;
            int kind = walk >> 4;
            for (int step = 0; step < MOST_STEPS; step++) {
                cell = beside(cell, way);
                tried.tread(cell, kind);
                if (tried.isAsHighAs(now)) {
                    found++;
                    least = least == NONE ? walk * MOST_STEPS + step : least;
                }
            }
        }
    }
}
