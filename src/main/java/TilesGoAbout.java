/** Tiles round a hearth and the little ones that go from tile to tile by night. */
public final class TilesGoAbout {
    /** Answered where there is none of what was asked for. */
    private static final int NONE = -9;

    private static final int COLUMNS = 6;
    private static final int TILES = 24;
    private static final int EVERY_TILE = (1 << TILES) - 1;
    private static final int FIRST_SHIP = 23;

    private static final int UP = 0;
    private static final int RIGHT = 1;
    private static final int DOWN = 2;
    private static final int LEFT = 3;
    private static final int WAYS = 4;

    private static final int KINDS = 6;
    private static final int MOST_ONES = 7;
    private static final int MOST_ON_A_TILE = 3;
    private static final int GREATEST_FIGURE = 9;
    private static final int LONGEST_PIN = 9;
    private static final int LAST_NIGHT = 999;
    private static final int MOST_NIGHTS = 60;
    private static final int QUIET_NIGHTS = 12;
    private static final int NIGHTS_TO_CHOOSE = 20;
    private static final int NIGHTS_OF_TWO = 9;
    private static final int NIGHTS_OF_COALS = 7;
    private static final int LEAST_ODDS = 2;
    private static final int GREATEST_ODDS = 20;
    private static final int MOST_WINTERS = 20;
    private static final int NIGHTS_OF_A_WINTER = 10;

    private static final int MOST_LETTERS = 96;
    private static final int GREATEST_LETTER = 255;
    private static final int MOST_IN_ROW = 16;
    private static final int GREATEST_IN_ROW = 99;
    private static final int FAULT_OF_FORM = -1000;
    private static final int FAULT_OF_SENSE = -2000;

    private static final int NOBODY = -1;
    private static final int OTHER = -2;
    private static final int STATE = -3;
    private static final int BELOW = -4;
    private static final int ROOM = -6;
    private static final int REFUSALS = 6;
    private static final long LONG_REFUSAL = 4000000000000000000L;

    private final Hearth now = new Hearth();
    private final Hearth picture = new Hearth();
    private boolean pictured = false;
    private final Mind mind = new Mind();
    private final Roads roads = new Roads();
    private final Letters letters = new Letters();
    private final int[] told = new int[MOST_IN_ROW];
    private int toldMany = 0;
    private final int[] refusals = new int[REFUSALS + 1];

    public TilesGoAbout() {
    }

    // ---- telling a chimney

    public int letter(int c) {
        if (c < 0) {
            return refuse(BELOW);
        }
        if (c > GREATEST_LETTER || letters.many >= MOST_LETTERS) {
            return refuse(ROOM);
        }
        return letters.add(c);
    }

    public int chimney() {
        int answer = letters.tellTo(now, mind.then);
        letters.many = 0;
        return answer;
    }

    // ---- who is here, and what is changed

    public int little(int one, int what) {
        if (!now.has(one)) {
            return refuse(NOBODY);
        }
        switch (what) {
            case 0: return now.kindOf(one);
            case 1: return now.figureOf(one);
            case 2: return now.homeOf(one);
            case 3: return now.tileOf(one);
            case 4: return now.pinnedOf(one);
            case 5: return now.isAboard(one) ? 1 : 0;
            case 6: return mind.nextWay(now, one);
            default: return refuse(OTHER);
        }
    }

    public int tile(int tile, int what) {
        if (!isTile(tile)) {
            return refuse(NOBODY);
        }
        switch (what) {
            case 0: return now.isCracked(tile) ? 1 : 0;
            case 1: return now.onesAt(tile);
            default: return refuse(OTHER);
        }
    }

    public int comesIn(int kind, int figure, int home) {
        if (!isUpTo(kind, KINDS - 1)) {
            return refuse(OTHER);
        }
        if (!isUpTo(figure, GREATEST_FIGURE)) {
            return refuse(belowOrRoom(figure));
        }
        if (!isTile(home)) {
            return refuse(NOBODY);
        }
        if (now.many >= MOST_ONES) {
            return refuse(ROOM);
        }
        return now.comeIn(kind, figure, home);
    }

    public int stands(int one, int tile) {
        if (!now.has(one) || !isTile(tile)) {
            return refuse(NOBODY);
        }
        int was = now.tileOf(one);
        now.put(one, tile);
        return was;
    }

    public int cracks(int tile) {
        if (!isTile(tile)) {
            return refuse(NOBODY);
        }
        now.turnCrack(tile);
        return now.isCracked(tile) ? 1 : 0;
    }

    public int ship(int tile) {
        if (!isTile(tile)) {
            return refuse(NOBODY);
        }
        int was = now.shipAt;
        now.shipAt = tile;
        return was;
    }

    public int pins(int one, int nights) {
        if (!now.has(one)) {
            return refuse(NOBODY);
        }
        if (!isUpTo(nights, LONGEST_PIN)) {
            return refuse(belowOrRoom(nights));
        }
        int was = now.tileOf(one);
        now.sendHome(one, nights);
        return was;
    }

    public int turn(int one, int kind, int figure) {
        if (!now.has(one)) {
            return refuse(NOBODY);
        }
        if (!isUpTo(kind, KINDS - 1)) {
            return refuse(OTHER);
        }
        if (!isUpTo(figure, GREATEST_FIGURE)) {
            return refuse(belowOrRoom(figure));
        }
        int was = 10 * now.kindOf(one) + now.figureOf(one);
        now.become(one, kind, figure);
        return was;
    }

    public int nights(int n) {
        if (n < 1) {
            return refuse(BELOW);
        }
        if (n > MOST_NIGHTS || now.night + n > LAST_NIGHT) {
            return refuse(ROOM);
        }
        now.passNights(n);
        return now.aboardMany();
    }

    // ---- in mind, some nights on

    public int oneThen(int one, int n, int what) {
        if (!now.has(one)) {
            return refuse(NOBODY);
        }
        if (!isUpTo(n, MOST_NIGHTS)) {
            return refuse(belowOrRoom(n));
        }
        if (!isUpTo(what, 1)) {
            return refuse(OTHER);
        }
        mind.think(now, n);
        return what == 0 ? mind.then.tileOf(one) : mind.then.pinnedOf(one);
    }

    public int aboard(int n) {
        if (!isUpTo(n, MOST_NIGHTS)) {
            return refuse(belowOrRoom(n));
        }
        mind.think(now, n);
        return mind.then.aboardOnes();
    }

    public int comes(int one, int tile) {
        if (!now.has(one) || !isTile(tile)) {
            return refuse(NOBODY);
        }
        return mind.firstAt(now, one, tile);
    }

    public int sails(int one) {
        if (one == -1) {
            return mind.firstAboard(now);
        }
        if (one == -2) {
            return mind.firstAllAboard(now);
        }
        if (!now.has(one)) {
            return refuse(NOBODY);
        }
        return mind.firstAt(now, one, now.shipAt);
    }

    public int meets(int one, int other) {
        if (!now.has(one) || !now.has(other) || one == other) {
            return refuse(NOBODY);
        }
        return mind.firstMeeting(now, one, other);
    }

    public int still() {
        return mind.firstQuiet(now);
    }

    // ---- roads

    public int far(int tile, int other) {
        if (!isTile(tile) || !isTile(other)) {
            return refuse(NOBODY);
        }
        return roads.between(now, tile, other);
    }

    public int cutOff() {
        int bits = 0;
        for (int one = 0; one < now.many; one++) {
            if (roads.between(now, now.tileOf(one), now.shipAt) == NONE) {
                bits |= 1 << one;
            }
        }
        return bits;
    }

    // ---- what had best be done

    public int shipBest(int n, int what) {
        if (!isUpTo(n, NIGHTS_TO_CHOOSE)) {
            return refuse(belowOrRoom(n));
        }
        if (!isUpTo(what, 1)) {
            return refuse(OTHER);
        }
        int best = mind.bestShip(now, n);
        return what == 0 ? best : mind.aboardWithShip(now, best, n);
    }

    public int mend(int n, int what) {
        if (!isUpTo(n, NIGHTS_TO_CHOOSE)) {
            return refuse(belowOrRoom(n));
        }
        if (!isUpTo(what, 1)) {
            return refuse(OTHER);
        }
        return what == 0 ? mind.bestMended(now, n) : mind.bestSpoilt(now, n);
    }

    public int pin(int n) {
        if (!isUpTo(n, NIGHTS_TO_CHOOSE)) {
            return refuse(belowOrRoom(n));
        }
        return mind.bestPinned(now, n);
    }

    public int fewest(int n) {
        if (!isUpTo(n, LONGEST_PIN)) {
            return refuse(belowOrRoom(n));
        }
        return mind.fewestPinned(now, n);
    }

    public int bestKind(int one, int what) {
        if (!now.has(one)) {
            return refuse(NOBODY);
        }
        if (!isUpTo(what, 1)) {
            return refuse(OTHER);
        }
        int best = mind.soonestKind(now, one);
        if (what == 0) {
            return best;
        }
        int when = mind.soonestAs(now, one, best);
        return when > MOST_NIGHTS ? NONE : when;
    }

    // ---- crowds and homes

    public int crowd(int what) {
        switch (what) {
            case 0: return now.fullestTile();
            case 1: return Integer.bitCount(now.onesAt(now.fullestTile()));
            case 2: return now.homeMany();
            case 3: return now.lostMany();
            case 4: return now.pinnedMany();
            case 5: return now.besideMany();
            case 6: return now.emptyTiles();
            default: return refuse(OTHER);
        }
    }

    public int farthest(int what) {
        if (!isUpTo(what, 1)) {
            return refuse(OTHER);
        }
        int one = now.farthestFromHome();
        return what == 0 || one == NONE ? one : now.fromHome(one);
    }

    public int order(int i) {
        if (i < 0) {
            return refuse(BELOW);
        }
        for (int one = 0; one < now.many; one++) {
            if (!now.isAboard(one) && now.aheadOf(one) == i) {
                return one;
            }
        }
        return NONE;
    }

    // ---- two, odds and fractions

    public int two(int a, int b, int n) {
        if (!now.has(a) || !now.has(b) || a == b) {
            return refuse(NOBODY);
        }
        if (!isUpTo(n, NIGHTS_OF_TWO)) {
            return refuse(belowOrRoom(n));
        }
        return mind.firstSettledPair(now, a, b, n);
    }

    public long coals(int one, int n, int t, int part) {
        if (!now.has(one)) {
            return refuseLong(NOBODY);
        }
        if (n < 0 || t < LEAST_ODDS) {
            return refuseLong(BELOW);
        }
        if (n > NIGHTS_OF_COALS || t > GREATEST_ODDS) {
            return refuseLong(ROOM);
        }
        if (!isUpTo(part, 1)) {
            return refuseLong(OTHER);
        }
        return partOf(mind.coalsAbove(now, one, n, t), power(t, n), part);
    }

    public long mean(int part) {
        if (!isUpTo(part, 1)) {
            return refuseLong(OTHER);
        }
        long all = 0;
        for (int one = 0; one < now.many; one++) {
            all += now.fromHome(one);
        }
        return partOf(all, now.many, part);
    }

    // ---- the row

    public int whatIs(int one, int what) {
        if (!now.has(one)) {
            return refuse(NOBODY);
        }
        if (!isUpTo(what, 1)) {
            return refuse(OTHER);
        }
        int bits = 0;
        int last = what == 0 ? KINDS - 1 : GREATEST_FIGURE;
        for (int guess = 0; guess <= last; guess++) {
            int kind = what == 0 ? guess : now.kindOf(one);
            int figure = what == 0 ? now.figureOf(one) : guess;
            if (goesAsTold(one, kind, figure)) {
                bits |= 1 << guess;
            }
        }
        return bits;
    }

    private boolean goesAsTold(int one, int kind, int figure) {
        mind.think(now, 0);
        mind.then.become(one, kind, figure);
        for (int i = 0; i < toldMany; i++) {
            if (i > 0) {
                mind.then.passNight();
            }
            if (mind.then.tileOf(one) != told[i]) {
                return false;
            }
        }
        return true;
    }

    public int row(int v) {
        if (v < 0) {
            return refuse(BELOW);
        }
        if (v > GREATEST_IN_ROW || toldMany >= MOST_IN_ROW) {
            return refuse(ROOM);
        }
        told[toldMany] = v;
        toldMany++;
        return toldMany;
    }

    public int judge() {
        int had = clear();
        for (int i = 0; i < had; i++) {
            if (!now.has(i) || now.homeOf(i) != told[i]) {
                return i;
            }
        }
        return NONE;
    }

    public int clear() {
        int had = toldMany;
        toldMany = 0;
        return had;
    }

    // ---- winters by lot

    public int lots(int n, int z, int what) {
        if (n < 1) {
            return refuse(BELOW);
        }
        if (n > MOST_WINTERS) {
            return refuse(ROOM);
        }
        if (!isUpTo(what, 1)) {
            return refuse(OTHER);
        }
        return mind.winters(now, n, z, what);
    }

    // ---- the image

    public int image() {
        picture.copyFrom(now);
        pictured = true;
        return now.night;
    }

    public int on() {
        if (!pictured) {
            return refuse(STATE);
        }
        now.copyFrom(picture);
        return now.night;
    }

    public int count(int what) {
        switch (what) {
            case 0: return now.many;
            case 1: return now.night;
            case 2: return now.cracked;
            case 3: return now.shipAt;
            case 4: return now.aboardOnes();
            case 5: return now.pinnedMany();
            case 6: return toldMany;
            case 7: return letters.many;
            default: return what > 10 && what <= 10 + REFUSALS ? refusals[what - 10] : NONE;
        }
    }

    // ---- refusals and small sums

    private int refuse(int number) {
        if (number < 0 && number >= -REFUSALS) {
            refusals[-number]++;
        }
        return number;
    }

    private long refuseLong(int number) {
        return LONG_REFUSAL - refuse(number);
    }

    private static int belowOrRoom(int number) {
        return number < 0 ? BELOW : ROOM;
    }

    private static boolean isUpTo(int number, int greatest) {
        return number >= 0 && number <= greatest;
    }

    private static boolean isTile(int tile) {
        return tile >= 0 && tile < TILES;
    }

    /** The TILE beside one that WAY, or NONE. */
    private static int besideOf(int tile, int way) {
        int column = tile % COLUMNS;
        switch (way) {
            case UP: return tile >= COLUMNS ? tile - COLUMNS : NONE;
            case RIGHT: return column < COLUMNS - 1 ? tile + 1 : NONE;
            case DOWN: return tile < TILES - COLUMNS ? tile + COLUMNS : NONE;
            case LEFT: return column > 0 ? tile - 1 : NONE;
            default: return NONE;
        }
    }

    private static int rowsAndColumns(int tile, int other) {
        return Math.abs(tile / COLUMNS - other / COLUMNS) + Math.abs(tile % COLUMNS - other % COLUMNS);
    }

    private static long power(int base, int times) {
        long product = 1;
        for (int i = 0; i < times; i++) {
            product *= base;
        }
        return product;
    }

    /** One part of a fraction in least terms: 0 above, 1 below the line. */
    private static long partOf(long above, long below, int part) {
        if (above == 0 || below == 0) {
            return part == 0 ? 0 : 1;
        }
        long divisor = commonDivisor(above, below);
        return (part == 0 ? above : below) / divisor;
    }

    private static long commonDivisor(long a, long b) {
        long greater = a;
        long rest = b;
        // Euclid's rests halve within two turns, so that 128 are enough for any two longs.
        for (int i = 0; i < 128 && rest != 0; i++) {
            long next = greater % rest;
            greater = rest;
            rest = next;
        }
        return greater == 0 ? 1 : greater;
    }

    /** k: the KIND above all others. */
    static class Skater {
        int wayFrom(int tile, int one, Hearth hearth) {
            return tile % COLUMNS < COLUMNS - 1 ? RIGHT : LEFT;
        }
    }

    /** h: down the hearth, and along its lowest row. */
    static final class Hoop extends Skater {
        int wayFrom(int tile, int one, Hearth hearth) {
            return tile < TILES - COLUMNS ? DOWN : super.wayFrom(tile, one, hearth);
        }
    }

    /** f: goes as a SKATER in some NIGHTS alone. */
    static final class Fisher extends Skater {
        int wayFrom(int tile, int one, Hearth hearth) {
            int every = hearth.figureOf(one) + 2;
            boolean goes = every > 0 && hearth.night % every == 0;
            return goes ? super.wayFrom(tile, one, hearth) : NONE;
        }
    }

    /** s: goes to THE SHIP. */
    static class Sailor extends Skater {
        int wayFrom(int tile, int one, Hearth hearth) {
            int ship = hearth.shipAt;
            int rowsDown = ship / COLUMNS - tile / COLUMNS;
            if (rowsDown != 0) {
                return rowsDown > 0 ? DOWN : UP;
            }
            if (ship == tile) {
                return NONE;
            }
            return ship > tile ? RIGHT : LEFT;
        }
    }

    /** w: goes to THE SHIP and from it by turns. */
    static final class Wife extends Sailor {
        int wayFrom(int tile, int one, Hearth hearth) {
            int way = super.wayFrom(tile, one, hearth);
            if (way == NONE || hearth.night % 2 == 0) {
                return way;
            }
            int against = (way + 2) % WAYS;
            return besideOf(tile, against) == NONE ? NONE : against;
        }
    }

    /** n: goes to THE SHIP behind all others. */
    static final class Nobody extends Sailor {
        int wayFrom(int tile, int one, Hearth hearth) {
            return hearth.othersAboard(one) ? super.wayFrom(tile, one, hearth) : NONE;
        }
    }

    /** All that there is at one time: THE IMAGE holds one, and so does a thought. */
    static final class Hearth {
        int cracked = 0;
        int shipAt = FIRST_SHIP;
        int night = 0;
        /** Never above MOST_ONES, the length of the rows below. */
        int many = 0;
        private final int[] kinds = new int[MOST_ONES];
        private final int[] figures = new int[MOST_ONES];
        private final int[] homes = new int[MOST_ONES];
        private final int[] tiles = new int[MOST_ONES];
        private final int[] pinned = new int[MOST_ONES];
        private final Skater skater = new Skater();
        private final Hoop hoop = new Hoop();
        private final Fisher fisher = new Fisher();
        private final Sailor sailor = new Sailor();
        private final Wife wife = new Wife();
        private final Nobody nobody = new Nobody();

        void copyFrom(Hearth other) {
            cracked = other.cracked;
            shipAt = other.shipAt;
            night = other.night;
            many = other.many;
            for (int one = 0; one < many; one++) {
                kinds[one] = other.kinds[one];
                figures[one] = other.figures[one];
                homes[one] = other.homes[one];
                tiles[one] = other.tiles[one];
                pinned[one] = other.pinned[one];
            }
        }

        boolean has(int one) {
            return one >= 0 && one < many;
        }

        int kindOf(int one) {
            return has(one) ? kinds[one] : NONE;
        }

        int figureOf(int one) {
            return has(one) ? figures[one] : NONE;
        }

        int homeOf(int one) {
            return has(one) ? homes[one] : NONE;
        }

        int tileOf(int one) {
            return has(one) ? tiles[one] : NONE;
        }

        int pinnedOf(int one) {
            return has(one) ? pinned[one] : NONE;
        }

        boolean isAboard(int one) {
            return tileOf(one) == shipAt;
        }

        boolean isCracked(int tile) {
            return (cracked >> tile & 1) == 1;
        }

        /** Answers the newcomer's number; NONE if there is no room. */
        int comeIn(int kind, int figure, int home) {
            if (many >= MOST_ONES) {
                return NONE;
            }
            int one = many;
            many++;
            become(one, kind, figure);
            homes[one] = home;
            tiles[one] = home;
            pinned[one] = 0;
            return one;
        }

        void become(int one, int kind, int figure) {
            if (has(one)) {
                kinds[one] = kind;
                figures[one] = figure;
            }
        }

        void put(int one, int tile) {
            if (has(one)) {
                tiles[one] = tile;
            }
        }

        void pinWhereHeIs(int one, int nights) {
            if (has(one)) {
                pinned[one] = nights;
            }
        }

        void sendHome(int one, int nights) {
            pinWhereHeIs(one, nights);
            put(one, homeOf(one));
        }

        void turnCrack(int tile) {
            cracked ^= 1 << tile;
        }

        void passNights(int n) {
            for (int i = 0; i < n; i++) {
                passNight();
            }
        }

        /** Answers whether anybody went anywhere. */
        boolean passNight() {
            boolean gone = false;
            night++;
            for (int one = 0; one < many; one++) {
                int own = tiles[one];
                if (own == shipAt) {
                    continue;
                }
                if (pinned[one] > 0) {
                    pinned[one]--;
                    continue;
                }
                int goal = besideOf(own, goerOf(kinds[one]).wayFrom(own, one, this));
                if (goal != NONE && mayGo(own, goal)) {
                    tiles[one] = goal;
                    gone = true;
                }
            }
            return gone;
        }

        private boolean mayGo(int own, int goal) {
            return !isCracked(own) && !isCracked(goal) && manyAt(goal) < MOST_ON_A_TILE;
        }

        int wayOf(int one) {
            return has(one) ? goerOf(kinds[one]).wayFrom(tiles[one], one, this) : NONE;
        }

        private Skater goerOf(int kind) {
            switch (kind) {
                case 1: return hoop;
                case 2: return fisher;
                case 3: return sailor;
                case 4: return wife;
                case 5: return nobody;
                default: return skater;
            }
        }

        boolean othersAboard(int one) {
            for (int other = 0; other < many; other++) {
                if (other != one && tiles[other] != shipAt) {
                    return false;
                }
            }
            return true;
        }

        int aboardOnes() {
            return onesAt(shipAt);
        }

        int aboardMany() {
            return manyAt(shipAt);
        }

        int onesAt(int tile) {
            int bits = 0;
            for (int one = 0; one < many; one++) {
                if (tiles[one] == tile) {
                    bits |= 1 << one;
                }
            }
            return bits;
        }

        int manyAt(int tile) {
            int found = 0;
            for (int one = 0; one < many; one++) {
                if (tiles[one] == tile) {
                    found++;
                }
            }
            return found;
        }

        int fullestTile() {
            int fullest = 0;
            for (int tile = 1; tile < TILES; tile++) {
                if (manyAt(tile) > manyAt(fullest)) {
                    fullest = tile;
                }
            }
            return fullest;
        }

        int emptyTiles() {
            int bits = EVERY_TILE;
            for (int one = 0; one < many; one++) {
                bits &= ~(1 << tiles[one]);
            }
            return bits;
        }

        int homeMany() {
            int found = 0;
            for (int one = 0; one < many; one++) {
                if (tiles[one] == homes[one]) {
                    found++;
                }
            }
            return found;
        }

        int lostMany() {
            int found = 0;
            for (int one = 0; one < many; one++) {
                if (isCracked(homes[one])) {
                    found++;
                }
            }
            return found;
        }

        int pinnedMany() {
            int found = 0;
            for (int one = 0; one < many; one++) {
                if (pinned[one] > 0) {
                    found++;
                }
            }
            return found;
        }

        int besideMany() {
            int found = 0;
            for (int one = 0; one < many; one++) {
                for (int other = one + 1; other < many; other++) {
                    if (rowsAndColumns(tiles[one], tiles[other]) == 1) {
                        found++;
                    }
                }
            }
            return found;
        }

        int fromHome(int one) {
            return rowsAndColumns(tileOf(one), homeOf(one));
        }

        int farthestFromHome() {
            int farthest = NONE;
            for (int one = 0; one < many; one++) {
                if (farthest == NONE || fromHome(one) > fromHome(farthest)) {
                    farthest = one;
                }
            }
            return farthest;
        }

        /** How many of those not ABOARD come ahead of one in ORDER. */
        int aheadOf(int one) {
            int own = rowsAndColumns(tileOf(one), shipAt);
            int ahead = 0;
            for (int other = 0; other < many; other++) {
                int way = rowsAndColumns(tiles[other], shipAt);
                if (way > 0 && (way < own || way == own && other < one)) {
                    ahead++;
                }
            }
            return ahead;
        }
    }

    /** Thoughts of nights to come: each begins with a copy of all as it is now. */
    static final class Mind {
        private static final int PAIRS = 4;
        private static final int NEVER = MOST_NIGHTS + 1;
        private static final int WITHOUT_SIGN = 0x7fffffff;

        final Hearth then = new Hearth();
        private final int[] firstHas = new int[PAIRS];
        private final int[] otherHas = new int[PAIRS];
        private int seed = 0;

        void think(Hearth now, int n) {
            then.copyFrom(now);
            then.passNights(n);
        }

        int nextWay(Hearth now, int one) {
            then.copyFrom(now);
            then.night++;
            return then.wayOf(one);
        }

        int firstAt(Hearth now, int one, int tile) {
            then.copyFrom(now);
            for (int n = 0; n <= MOST_NIGHTS; n++) {
                if (then.tileOf(one) == tile) {
                    return n;
                }
                then.passNight();
            }
            return NONE;
        }

        int firstAboard(Hearth now) {
            then.copyFrom(now);
            for (int n = 0; n <= MOST_NIGHTS; n++) {
                for (int one = 0; one < then.many; one++) {
                    if (then.isAboard(one)) {
                        return one;
                    }
                }
                then.passNight();
            }
            return NONE;
        }

        int firstAllAboard(Hearth now) {
            then.copyFrom(now);
            for (int n = 0; n <= MOST_NIGHTS; n++) {
                if (then.aboardMany() == then.many) {
                    return n;
                }
                then.passNight();
            }
            return NONE;
        }

        int firstMeeting(Hearth now, int one, int other) {
            then.copyFrom(now);
            for (int n = 0; n <= MOST_NIGHTS; n++) {
                if (then.tileOf(one) == then.tileOf(other)) {
                    return n;
                }
                then.passNight();
            }
            return NONE;
        }

        int firstQuiet(Hearth now) {
            then.copyFrom(now);
            int since = 0;
            for (int n = 1; n <= MOST_NIGHTS + QUIET_NIGHTS; n++) {
                if (then.passNight()) {
                    since = n;
                }
                if (n - since == QUIET_NIGHTS) {
                    return since;
                }
            }
            return NONE;
        }

        int aboardBehind(Hearth now, int n) {
            then.copyFrom(now);
            then.passNights(n);
            return then.aboardMany();
        }

        int aboardWithShip(Hearth now, int tile, int n) {
            then.copyFrom(now);
            then.shipAt = tile;
            then.passNights(n);
            return then.aboardMany();
        }

        int aboardWithTurnedCrack(Hearth now, int tile, int n) {
            then.copyFrom(now);
            then.turnCrack(tile);
            then.passNights(n);
            return then.aboardMany();
        }

        int aboardWithPinned(Hearth now, int one, int n) {
            then.copyFrom(now);
            then.sendHome(one, LONGEST_PIN);
            then.passNights(n);
            return then.aboardMany();
        }

        int bestShip(Hearth now, int n) {
            int best = 0;
            int most = -1;
            for (int tile = 0; tile < TILES; tile++) {
                int found = aboardWithShip(now, tile, n);
                if (found > most) {
                    most = found;
                    best = tile;
                }
            }
            return best;
        }

        int bestMended(Hearth now, int n) {
            int best = NONE;
            int most = aboardBehind(now, n);
            for (int tile = 0; tile < TILES; tile++) {
                if (now.isCracked(tile)) {
                    int found = aboardWithTurnedCrack(now, tile, n);
                    if (found > most) {
                        most = found;
                        best = tile;
                    }
                }
            }
            return best;
        }

        int bestSpoilt(Hearth now, int n) {
            int best = NONE;
            int least = aboardBehind(now, n);
            for (int tile = 0; tile < TILES; tile++) {
                if (!now.isCracked(tile)) {
                    int found = aboardWithTurnedCrack(now, tile, n);
                    if (found < least) {
                        least = found;
                        best = tile;
                    }
                }
            }
            return best;
        }

        int bestPinned(Hearth now, int n) {
            int best = NONE;
            int least = aboardBehind(now, n);
            for (int one = 0; one < now.many; one++) {
                int found = aboardWithPinned(now, one, n);
                if (found < least) {
                    least = found;
                    best = one;
                }
            }
            return best;
        }

        int fewestPinned(Hearth now, int n) {
            int best = NONE;
            int least = now.many + 1;
            for (int ones = 0; ones < 1 << now.many; ones++) {
                int found = Integer.bitCount(ones);
                if (found < least && nobodyAboard(now, ones, n)) {
                    least = found;
                    best = ones;
                }
            }
            return best;
        }

        private boolean nobodyAboard(Hearth now, int pinnedOnes, int n) {
            then.copyFrom(now);
            for (int one = 0; one < then.many; one++) {
                if ((pinnedOnes >> one & 1) == 1) {
                    then.sendHome(one, LONGEST_PIN);
                }
            }
            // Whoever is ABOARD stays there, so that the last NIGHT tells of all.
            then.passNights(n);
            return then.aboardMany() == 0;
        }

        /** Behind how many NIGHTS one would be ABOARD as a KIND; NEVER. */
        int soonestAs(Hearth now, int one, int kind) {
            then.copyFrom(now);
            then.become(one, kind, now.figureOf(one));
            for (int n = 0; n <= MOST_NIGHTS; n++) {
                if (then.isAboard(one)) {
                    return n;
                }
                then.passNight();
            }
            return NEVER;
        }

        int soonestKind(Hearth now, int one) {
            int best = 0;
            int least = NEVER;
            for (int kind = 0; kind < KINDS; kind++) {
                int when = soonestAs(now, one, kind);
                if (when < least) {
                    least = when;
                    best = kind;
                }
            }
            return best;
        }

        /** A pair's place has the first's choice as its bit 1, the other's as its bit 0. */
        int firstSettledPair(Hearth now, int a, int b, int n) {
            for (int pair = 0; pair < PAIRS; pair++) {
                then.copyFrom(now);
                if ((pair & 2) == 0) {
                    then.pinWhereHeIs(a, n);
                }
                if ((pair & 1) == 0) {
                    then.pinWhereHeIs(b, n);
                }
                then.passNights(n);
                firstHas[pair] = worthOf(a);
                otherHas[pair] = worthOf(b);
            }
            for (int pair = 0; pair < PAIRS; pair++) {
                if (firstHas[pair ^ 2] <= firstHas[pair] && otherHas[pair ^ 1] <= otherHas[pair]) {
                    return 10 * (pair >> 1) + (pair & 1);
                }
            }
            return NONE;
        }

        private int worthOf(int one) {
            int all = then.aboardMany();
            return then.isAboard(one) ? 5 + 2 * (all - 1) : 2 * all;
        }

        /** Above the line of COALS; below it t to the n. */
        long coalsAbove(Hearth now, int one, int n, int t) {
            long above = 0;
            for (int coals = 0; coals < 1 << n; coals++) {
                then.copyFrom(now);
                for (int i = 0; i < n; i++) {
                    then.cracked = now.cracked | (coals >> i & 1) << now.shipAt;
                    then.passNight();
                }
                if (then.isAboard(one)) {
                    above += power(t - 1, n - Integer.bitCount(coals));
                }
            }
            return above;
        }

        int winters(Hearth now, int n, int z, int what) {
            int all = 0;
            seed = z;
            for (int winter = 0; winter < n; winter++) {
                then.copyFrom(now);
                for (int one = 0; one < then.many; one++) {
                    then.put(one, draw(TILES));
                    then.pinWhereHeIs(one, draw(3));
                }
                then.passNights(NIGHTS_OF_A_WINTER);
                all += what == 0 ? then.aboardMany() : then.homeMany();
            }
            return all;
        }

        private int draw(int below) {
            seed = seed * 1664525 + 1013904223;
            return below < 1 ? 0 : (seed & WITHOUT_SIGN) / 256 % below;
        }
    }

    /** FAR, over TILES not CRACKED. */
    static final class Roads {
        private final int[] steps = new int[TILES];
        private final int[] reached = new int[TILES];

        int between(Hearth hearth, int from, int to) {
            if (!isTile(from) || !isTile(to)) {
                return NONE;
            }
            for (int tile = 0; tile < TILES; tile++) {
                steps[tile] = NONE;
            }
            steps[from] = 0;
            reached[0] = from;
            int many = 1;
            for (int i = 0; i < many && i < TILES; i++) {
                int tile = reached[i];
                for (int way = 0; way < WAYS; way++) {
                    int next = besideOf(tile, way);
                    if (isTile(next) && many < TILES && steps[next] == NONE && !hearth.isCracked(next)) {
                        steps[next] = steps[tile] + 1;
                        reached[many] = next;
                        many++;
                    }
                }
            }
            return steps[to];
        }
    }

    /** The letters of a CHIMNEY, and what they tell. */
    static final class Letters {
        private static final char[] KIND_LETTERS = {'k', 'h', 'f', 's', 'w', 'n'};
        private static final char END = ';';

        private final int[] all = new int[MOST_LETTERS];
        /** Never above MOST_LETTERS. */
        int many = 0;

        int add(int c) {
            if (many < MOST_LETTERS) {
                all[many] = c;
                many++;
            }
            return many;
        }

        /** Tells all of it to now, or nothing: how many STATEMENTS, or the FAULT. */
        int tellTo(Hearth now, Hearth then) {
            int fault = placeOfFormFault();
            if (fault != NONE) {
                return FAULT_OF_FORM - fault;
            }
            then.copyFrom(now);
            int statements = 0;
            int start = 0;
            for (int place = 0; place < many; place++) {
                if (all[place] == END) {
                    if (!tellStatement(then, start)) {
                        return FAULT_OF_SENSE - start;
                    }
                    statements++;
                    start = place + 1;
                }
            }
            now.copyFrom(then);
            return statements;
        }

        private int placeOfFormFault() {
            int start = 0;
            for (int place = 0; place < many; place++) {
                if (!mayStand(at(start), place - start, all[place])) {
                    return place;
                }
                if (all[place] == END) {
                    start = place + 1;
                }
            }
            return many == 0 || start < many ? many : NONE;
        }

        /** Whether c may stand so many letters behind the first of its STATEMENT. */
        private static boolean mayStand(int first, int behind, int c) {
            int last = lengthOf(first) - 1;
            if (last < 0) {
                return false;
            }
            if (behind == 0) {
                return true;
            }
            if (behind == last) {
                return c == END;
            }
            if (first == 'l' && behind == 1) {
                return kindOfLetter(c) != NONE;
            }
            return c >= '0' && c <= '9';
        }

        /** How many letters a STATEMENT has, its ";" too; 0 if none begins so. */
        private static int lengthOf(int first) {
            switch (first) {
                case 'l': return 6;
                case 'a': return 5;
                case 'c':
                case 's':
                case 'p':
                case 'n': return 4;
                default: return 0;
            }
        }

        private static int kindOfLetter(int c) {
            for (int kind = 0; kind < KIND_LETTERS.length; kind++) {
                if (KIND_LETTERS[kind] == c) {
                    return kind;
                }
            }
            return NONE;
        }

        /** Whether the STATEMENT that begins there is as it must be; if so, then has it. */
        private boolean tellStatement(Hearth then, int start) {
            switch (at(start)) {
                case 'l': return tellLittle(then, kindOfLetter(at(start + 1)), digit(start + 2), number(start + 3));
                case 'a': return tellStands(then, digit(start + 1), number(start + 2));
                case 'c': return tellCrack(then, number(start + 1));
                case 's': return tellShip(then, number(start + 1));
                case 'p': return tellPin(then, digit(start + 1), digit(start + 2));
                case 'n': return tellNights(then, number(start + 1));
                default: return false;
            }
        }

        private static boolean tellLittle(Hearth then, int kind, int figure, int home) {
            return isTile(home) && then.comeIn(kind, figure, home) != NONE;
        }

        private static boolean tellStands(Hearth then, int one, int tile) {
            if (!then.has(one) || !isTile(tile)) {
                return false;
            }
            then.put(one, tile);
            return true;
        }

        private static boolean tellCrack(Hearth then, int tile) {
            if (!isTile(tile)) {
                return false;
            }
            then.turnCrack(tile);
            return true;
        }

        private static boolean tellShip(Hearth then, int tile) {
            if (!isTile(tile)) {
                return false;
            }
            then.shipAt = tile;
            return true;
        }

        private static boolean tellPin(Hearth then, int one, int nights) {
            if (!then.has(one)) {
                return false;
            }
            then.sendHome(one, nights);
            return true;
        }

        private static boolean tellNights(Hearth then, int n) {
            if (n < 1 || n > MOST_NIGHTS || then.night + n > LAST_NIGHT) {
                return false;
            }
            // Not by passNights: from here it would go deeper than the eight calls of LANGUAGE.md.
            for (int i = 0; i < n; i++) {
                then.passNight();
            }
            return true;
        }

        private int at(int place) {
            return place >= 0 && place < many ? all[place] : NONE;
        }

        private int digit(int place) {
            return at(place) - '0';
        }

        private int number(int place) {
            return 10 * digit(place) + digit(place + 1);
        }
    }
}
