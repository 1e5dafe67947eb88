import java.util.NoSuchElementException;

/** One skin a year: houses on a land that grow outward, ring about ring. See README.md. */
public final class YearSkins {
    public static final int NONE = -1;

    /** The document's answer for what can't be, or doesn't come. */
    private static final int NOT = -2;

    private static final int TAPE_BYTES = 1000;
    private static final int FEED_BYTES = 20;
    private static final int MOST_WIDE = 12;
    private static final int MOST_WATER = 10;
    private static final int MOST_STONES = 4;
    private static final int MOST_HOUSES = 4;
    private static final int MOST_SKINS = 6;
    private static final int MOST_HEIRS = 6;
    private static final int MOST_WALLS = 6;
    private static final int MOST_OLDER = 8;
    private static final int MOST_ACTS = 10;
    private static final int MOST_MARKS = 3;
    private static final int MOST_FAMILY = 99;
    private static final int MOST_GOLD = 999;
    private static final int MOST_LOCK = 99;
    private static final int LAST_YEAR = 999;
    private static final int SEEDS = 65537;
    private static final int LONGEST_IN = 60;
    private static final int LONGEST_FIRST = 30;
    private static final int LONGEST_YEARS = 20;

    private static final int NO_TROUBLE = 0;
    private static final int NO_SUCH = 1;
    private static final int BAD_NUMBER = 2;
    private static final int NO_ROOM = 3;
    private static final int FAULTY = 4;
    private static final int NOT_SO = 5;
    private static final int NOTHING = 6;

    /** What a STONE has, by the numbers of stone(). */
    private static final int KIND = 0;
    private static final int COSTS = 1;
    private static final int WARM = 2;
    private static final int ROTS = 3;
    private static final int STRONG = 4;
    private static final int STONE_PARTS = 5;
    private static final int SOFT = 1;
    private static final int WOOD = 2;

    /** What a SKIN has, by the numbers of skin(). */
    private static final int STONE = 0;
    private static final int SIDE = 1;
    private static final int PLACE = 2;
    private static final int LOCK = 3;
    private static final int ROT = 4;
    private static final int COLLAPSED = 5;
    private static final int FILLED = 6;
    private static final int BUILT = 7;
    private static final int SKIN_PARTS = 8;

    private static final int SIDES = 4;
    private static final int[] SIDE_EAST = {0, 1, 0, -1};
    private static final int[] SIDE_SOUTH = {-1, 0, 1, 0};

    /** How many rows there are of 0 to 6 things. */
    private static final int[] ROWS_OF = {1, 1, 2, 6, 24, 120, 720};
    private static final int[] BY_NUMBERS = {0, 1, 2, 3};

    private final int[] tape = new int[TAPE_BYTES];
    private int fed;
    private boolean told;
    private Land ground = new Land();
    private Land draftGround = new Land();
    private final State now = new State();
    private final State draft = new State();
    private final State then = new State();
    private final Reader reader = new Reader();
    private final Years calendar = new Years();
    private final Burglar burglar = new Burglar();
    private final WallOrders wallOrders = new WallOrders();
    private final Past past = new Past();
    private int lastTrouble;
    private int lastFault;
    private int faultPlace;

    public YearSkins() {
    }

    // ---- the land

    public int feed(int a, int b, int c, int d, int e) {
        if (fed + FEED_BYTES > TAPE_BYTES) {
            return NONE;
        }
        putNumber(a);
        putNumber(b);
        putNumber(c);
        putNumber(d);
        putNumber(e);
        return fed;
    }

    private void putNumber(int number) {
        for (int shift = 24; shift >= 0; shift -= 8) {
            if (fed < TAPE_BYTES) {
                tape[fed] = (number >> shift) & 255;
                fed++;
            }
        }
    }

    public int land(int n) {
        if (n < 0 || n > fed) {
            return refuse(BAD_NUMBER);
        }
        fed = 0;
        reader.readAll(tape, n, draftGround, draft);
        lastFault = reader.fault;
        faultPlace = reader.place;
        if (lastFault != 0) {
            return refuse(FAULTY);
        }
        Land old = ground;
        ground = draftGround;
        draftGround = old;
        now.copyFrom(draft);
        past.forget();
        told = true;
        return answer(ground.houses);
    }

    public int fault() {
        return lastFault;
    }

    public int where() {
        return lastTrouble == FAULTY ? faultPlace : NONE;
    }

    // ---- now

    public int whose(int x, int y) {
        if (!told || !ground.isOn(x, y)) {
            return refuse(NO_SUCH);
        }
        return answer(Site.ownersOf(ground, now, x, y));
    }

    public int shared() {
        if (!told) {
            return refuse(NO_SUCH);
        }
        int count = 0;
        for (int y = 0; y < ground.high; y++) {
            for (int x = 0; x < ground.wide; x++) {
                if (Integer.bitCount(Site.ownersOf(ground, now, x, y)) > 1) {
                    count++;
                }
            }
        }
        return answer(count);
    }

    public int free() {
        if (!told) {
            return refuse(NO_SUCH);
        }
        int count = 0;
        for (int y = 0; y < ground.high; y++) {
            for (int x = 0; x < ground.wide; x++) {
                if (Site.isFree(ground, now, x, y)) {
                    count++;
                }
            }
        }
        return answer(count);
    }

    public int house(int h, int what) {
        if (!isHouse(h)) {
            return refuse(NO_SUCH);
        }
        switch (what) {
            case 0:
                return answer(ground.coreY[h] * ground.wide + ground.coreX[h]);
            case 1:
                return answer(now.counts[h]);
            case 2:
                return answer(now.families[h]);
            case 3:
                return answer(now.golds[h]);
            case 4:
                return answer(ground.houseStone[h]);
            case 5:
                return answer(Site.isShut(ground, now, h) ? 1 : 0);
            case 6:
                return answer(now.isCrowded(h) ? 1 : 0);
            default:
                return refuse(NO_SUCH);
        }
    }

    public int skin(int h, int r, int what) {
        if (!isSkin(h, r) || what < 0 || what >= SKIN_PARTS) {
            return refuse(NO_SUCH);
        }
        return answer(now.partOf(h, r, what));
    }

    public int warm(int h, int r) {
        if (!isRoom(h, r)) {
            return refuse(NO_SUCH);
        }
        return answer(warmth(h, r));
    }

    private int warmth(int h, int r) {
        int sum = 0;
        for (int s = Math.max(r, 1); s <= now.counts[h]; s++) {
            if (now.stands(h, s)) {
                sum += ground.stonePart(now.partOf(h, s, STONE), WARM);
            }
        }
        return sum;
    }

    public int light(int h, int r) {
        if (!isRoom(h, r)) {
            return refuse(NO_SUCH);
        }
        return answer(Math.max(0, 9 - 3 * (now.counts[h] - r)));
    }

    public int heir(int i, int what) {
        if (!isHeir(i)) {
            return refuse(NO_SUCH);
        }
        switch (what) {
            case 0:
                return answer(ground.heirHouse[i]);
            case 1:
                return answer(now.rooms[i]);
            case 2:
                return answer(warmth(ground.heirHouse[i], now.rooms[i]));
            default:
                return refuse(NO_SUCH);
        }
    }

    public int fits(int h) {
        if (!isHouse(h)) {
            return refuse(NO_SUCH);
        }
        return answer(Site.isFit(ground, now, h) ? 1 : 0);
    }

    public int door(int h) {
        if (!isHouse(h)) {
            return refuse(NO_SUCH);
        }
        return answer(Site.isFit(ground, now, h) ? Site.lawDoor(ground, now, h) : NOT);
    }

    public int costs(int h, int stone) {
        if (!isHouse(h) || !isStone(stone)) {
            return refuse(NO_SUCH);
        }
        if (now.counts[h] >= MOST_SKINS) {
            return refuse(NO_ROOM);
        }
        return answer(Site.priceOf(ground, now, h, stone));
    }

    // ---- ways in

    public int way(int h, int k) {
        if (!isRoom(h, k)) {
            return refuse(NO_SUCH);
        }
        return answer(now.wayTo(h, k));
    }

    public int through(int h, int k) {
        if (!isRoom(h, k)) {
            return refuse(NO_SUCH);
        }
        return answer(burglar.cheapest(ground, now, h, k) / Burglar.MINUTE);
    }

    public int breaks(int h, int k) {
        if (!isRoom(h, k)) {
            return refuse(NO_SUCH);
        }
        return answer(burglar.cheapest(ground, now, h, k) % Burglar.MINUTE);
    }

    public int round(int h, int r) {
        if (!isSkin(h, r) || r < 2) {
            return refuse(NO_SUCH);
        }
        return answer(now.roundIn(h, r));
    }

    // ---- what will be

    public int in(int h, int t, int what) {
        if (!isHouse(h) || what < 0 || what > 4) {
            return refuse(NO_SUCH);
        }
        if (t < 0 || t > LONGEST_IN) {
            return refuse(BAD_NUMBER);
        }
        goTo(t);
        switch (what) {
            case 0:
                return answer(then.counts[h]);
            case 1:
                return answer(then.families[h]);
            case 2:
                return answer(then.golds[h]);
            case 3:
                return answer(then.fallen(h));
            default:
                return answer(Site.isShut(ground, then, h) ? 1 : 0);
        }
    }

    private void goTo(int t) {
        then.copyFrom(now);
        for (int i = 0; i < t; i++) {
            Years.pass(ground, then, BY_NUMBERS);
        }
    }

    public int skinsIn(int t) {
        if (!told) {
            return refuse(NO_SUCH);
        }
        if (t < 0 || t > LONGEST_IN) {
            return refuse(BAD_NUMBER);
        }
        goTo(t);
        return answer(then.skinsOfAll());
    }

    public int meet(int h, int g, int t) {
        if (!isHouse(h) || !isHouse(g) || h == g) {
            return refuse(NO_SUCH);
        }
        if (t < 0 || t > LONGEST_IN) {
            return refuse(BAD_NUMBER);
        }
        then.copyFrom(now);
        for (int i = 0; i <= t; i++) {
            if (Site.isMet(ground, then, h, g)) {
                return answer(i);
            }
            Years.pass(ground, then, BY_NUMBERS);
        }
        return answer(NOT);
    }

    public int falls(int h, int r, int t) {
        if (!isSkin(h, r)) {
            return refuse(NO_SUCH);
        }
        if (t < 0 || t > LONGEST_IN) {
            return refuse(BAD_NUMBER);
        }
        then.copyFrom(now);
        for (int i = 0; i <= t; i++) {
            if (!then.stands(h, r)) {
                return answer(i);
            }
            Years.pass(ground, then, BY_NUMBERS);
        }
        return answer(NOT);
    }

    public int room(int h) {
        if (!isHouse(h)) {
            return refuse(NO_SUCH);
        }
        then.copyFrom(now);
        int more = 0;
        for (int i = 0; i < MOST_SKINS; i++) {
            int at = Site.isFit(ground, then, h) ? Site.lawDoor(ground, then, h) : NOT;
            if (at == NOT) {
                return answer(more);
            }
            then.addSkin(h, 0, at / 100, at % 100, 0, then.year);
            more++;
        }
        return answer(more);
    }

    public int first(int t) {
        if (!told) {
            return refuse(NO_SUCH);
        }
        if (t < 0 || t > LONGEST_FIRST) {
            return refuse(BAD_NUMBER);
        }
        return answer(calendar.mostSkins(ground, now, then, t));
    }

    public int firstAt(int t, int i) {
        if (!isHouse(i)) {
            return refuse(NO_SUCH);
        }
        if (t < 0 || t > LONGEST_FIRST) {
            return refuse(BAD_NUMBER);
        }
        calendar.mostSkins(ground, now, then, t);
        return answer(calendar.best[i]);
    }

    public int heads(int seed, int t) {
        if (!told) {
            return refuse(NO_SUCH);
        }
        if (seed < 0 || seed >= SEEDS || t < 0 || t > LONGEST_IN) {
            return refuse(BAD_NUMBER);
        }
        then.copyFrom(now);
        then.seed = seed;
        for (int i = 0; i < t; i++) {
            Years.pass(ground, then, BY_NUMBERS);
        }
        int sum = 0;
        for (int h = 0; h < ground.houses; h++) {
            sum += then.families[h];
        }
        return answer(sum);
    }

    // ---- what is worth taking

    public int takes(int h) {
        if (!isHouse(h)) {
            return refuse(NO_SUCH);
        }
        int r = now.inmost(h);
        return answer(r == 0 ? NOT : goldIn(h, r));
    }

    private int goldIn(int h, int r) {
        return ground.stonePart(now.partOf(h, r, STONE), COSTS) * 8 * r / 2;
    }

    public int worth(int h) {
        if (!isHouse(h)) {
            return refuse(NO_SUCH);
        }
        int sum = 0;
        for (int r = 1; r < now.counts[h]; r++) {
            if (now.stands(h, r)) {
                if (isLivedIn(h, r)) {
                    return answer(sum);
                }
                sum += goldIn(h, r);
            }
        }
        return answer(sum);
    }

    // ---- walls

    public int orders() {
        if (!told) {
            return refuse(NO_SUCH);
        }
        wallOrders.lookAtAll(ground, now.year);
        return answer(wallOrders.count);
    }

    public int order(int i, int n) {
        if (!isWall(n) || i < 0 || i >= ROWS_OF[MOST_WALLS]) {
            return refuse(NO_SUCH);
        }
        int wall = wallOrders.wallAt(ground, now.year, i, n);
        return wall == NOT ? refuse(NO_SUCH) : answer(wall);
    }

    public int soonest(int wall) {
        if (!isWall(wall)) {
            return refuse(NO_SUCH);
        }
        wallOrders.lookAtAll(ground, now.year);
        return answer(wallOrders.count == 0 ? NOT : wallOrders.soon[wall]);
    }

    public int latest(int wall) {
        if (!isWall(wall)) {
            return refuse(NO_SUCH);
        }
        wallOrders.lookAtAll(ground, now.year);
        return answer(wallOrders.count == 0 ? NOT : wallOrders.late[wall]);
    }

    public int surely(int wall, int other) {
        if (!isWall(wall) || !isWall(other) || wall == other) {
            return refuse(NO_SUCH);
        }
        wallOrders.lookAtAll(ground, now.year);
        boolean always = (wallOrders.sureAhead[other] >> wall & 1) == 1;
        return answer(wallOrders.count > 0 && always ? 1 : 0);
    }

    // ---- acts

    public int years(int n) {
        if (!told) {
            return refuse(NO_SUCH);
        }
        if (n < 1 || n > LONGEST_YEARS) {
            return refuse(BAD_NUMBER);
        }
        if (now.year + n > LAST_YEAR) {
            return refuse(NO_ROOM);
        }
        past.keep(now);
        for (int i = 0; i < n; i++) {
            Years.pass(ground, now, BY_NUMBERS);
        }
        return answer(now.skinsOfAll());
    }

    public int build(int h, int stone, int side, int place, int lock) {
        if (!isHouse(h) || !isStone(stone) || side < 0 || side >= SIDES) {
            return refuse(NO_SUCH);
        }
        int r = now.counts[h] + 1;
        if (r > MOST_SKINS) {
            return refuse(NO_ROOM);
        }
        if (place < 0 || place > 2 * r - 2 || lock < 0 || lock > MOST_LOCK) {
            return refuse(BAD_NUMBER);
        }
        if (!Site.isFit(ground, now, h) || !Site.isFrontFree(ground, now, h, r, side, place)) {
            return refuse(NOT_SO);
        }
        int price = Site.priceOf(ground, now, h, stone);
        if (price > now.golds[h]) {
            return refuse(NOTHING);
        }
        past.keep(now);
        now.golds[h] -= price;
        now.addSkin(h, stone, side, place, lock, now.year);
        return answer(price);
    }

    public boolean fill(int h, int r) {
        if (!isSkin(h, r)) {
            return no(NO_SUCH);
        }
        if (!now.isOpen(h, r) || isLivedIn(h, r)) {
            return no(NOT_SO);
        }
        past.keep(now);
        now.setPart(h, r, FILLED, 1);
        return yes();
    }

    public int take(int h) {
        if (!isHouse(h)) {
            return refuse(NO_SUCH);
        }
        int r = now.inmost(h);
        if (r == 0) {
            return refuse(NOTHING);
        }
        if (isLivedIn(h, r)) {
            return refuse(NOT_SO);
        }
        past.keep(now);
        int gold = goldIn(h, r);
        now.golds[h] = Math.min(MOST_GOLD, now.golds[h] + gold);
        now.setPart(h, r, COLLAPSED, 1);
        now.setPart(h, r, FILLED, 0);
        return answer(gold);
    }

    public boolean lock(int h, int r, int v) {
        if (!isSkin(h, r)) {
            return no(NO_SUCH);
        }
        if (v < 0 || v > MOST_LOCK) {
            return no(BAD_NUMBER);
        }
        if (now.partOf(h, r, LOCK) == v) {
            return no(NOT_SO);
        }
        past.keep(now);
        now.setPart(h, r, LOCK, v);
        return yes();
    }

    public boolean move(int heir, int r) {
        if (!isHeir(heir) || !isRoom(ground.heirHouse[heir], r)) {
            return no(NO_SUCH);
        }
        if (now.rooms[heir] == r || r > 0 && !now.isOpen(ground.heirHouse[heir], r)) {
            return no(NOT_SO);
        }
        past.keep(now);
        now.rooms[heir] = r;
        return yes();
    }

    public boolean give(int h, int g, int v) {
        if (!isHouse(h) || !isHouse(g) || h == g) {
            return no(NO_SUCH);
        }
        if (v < 1 || v > now.golds[h] || now.golds[g] + v > MOST_GOLD) {
            return no(BAD_NUMBER);
        }
        past.keep(now);
        now.golds[h] -= v;
        now.golds[g] += v;
        return yes();
    }

    public boolean seed(int v) {
        if (!told) {
            return no(NO_SUCH);
        }
        if (v < 0 || v >= SEEDS) {
            return no(BAD_NUMBER);
        }
        now.seed = v;
        return yes();
    }

    public boolean undo() {
        return past.stepBack(now) ? yes() : no(NOTHING);
    }

    public int mark() {
        if (!told) {
            return refuse(NO_SUCH);
        }
        int number = past.addMark(now);
        return number == NONE ? refuse(NO_ROOM) : answer(number);
    }

    public boolean back(int mark) {
        return past.goToMark(now, mark) ? yes() : no(NO_SUCH);
    }

    // ---- what is told

    public int stone(int s, int what) {
        if (!isStone(s) || what < 0 || what >= STONE_PARTS) {
            return refuse(NO_SUCH);
        }
        return answer(ground.stonePart(s, what));
    }

    public int led(int i) throws NoSuchElementException {
        int seen = 0;
        for (int h = 0; told && h < ground.houses; h++) {
            if (Site.isShut(ground, now, h)) {
                if (seen == i) {
                    return h;
                }
                seen++;
            }
        }
        throw new NoSuchElementException();
    }

    public int size(int what) {
        if (what == 12) {
            return fed;
        }
        if (what < 0 || what > 12) {
            return NONE;
        }
        if (!told) {
            return 0;
        }
        return what < 8 ? sizeTold(what) : sizeNow(what);
    }

    private int sizeTold(int what) {
        switch (what) {
            case 0:
                return ground.wide;
            case 1:
                return ground.high;
            case 2:
                return ground.far ? 1 : 0;
            case 3:
                return ground.share ? 1 : 0;
            case 4:
                return ground.stones;
            case 5:
                return ground.houses;
            case 6:
                return ground.heirs;
            default:
                return ground.walls;
        }
    }

    private int sizeNow(int what) {
        switch (what) {
            case 8:
                return now.year;
            case 9:
                return now.seed;
            case 10:
                return past.acts;
            default:
                return past.marks;
        }
    }

    public int trouble() {
        return lastTrouble;
    }

    // ---- what the calls share

    private int answer(int value) {
        lastTrouble = NO_TROUBLE;
        return value;
    }

    private int refuse(int why) {
        lastTrouble = why;
        return NONE;
    }

    private boolean yes() {
        lastTrouble = NO_TROUBLE;
        return true;
    }

    private boolean no(int why) {
        lastTrouble = why;
        return false;
    }

    private boolean isHouse(int h) {
        return told && h >= 0 && h < ground.houses;
    }

    private boolean isStone(int s) {
        return told && s >= 0 && s < ground.stones;
    }

    private boolean isHeir(int i) {
        return told && i >= 0 && i < ground.heirs;
    }

    private boolean isWall(int w) {
        return told && w >= 0 && w < ground.walls;
    }

    /** A SKIN or the core. */
    private boolean isRoom(int h, int r) {
        return isHouse(h) && r >= 0 && r <= now.counts[h];
    }

    private boolean isSkin(int h, int r) {
        return r > 0 && isRoom(h, r);
    }

    private boolean isLivedIn(int h, int r) {
        for (int i = 0; i < ground.heirs; i++) {
            if (ground.heirHouse[i] == h && now.rooms[i] == r) {
                return true;
            }
        }
        return false;
    }

    /** What the text tells and no ACT changes. */
    private static final class Land {
        int wide;
        int high;
        boolean far;
        boolean share;
        int births;
        int fire;
        int earns;
        final boolean[] wet = new boolean[MOST_WIDE * MOST_WIDE];
        int stones;
        final int[] stoneParts = new int[MOST_STONES * STONE_PARTS];
        int houses;
        final int[] coreX = new int[MOST_HOUSES];
        final int[] coreY = new int[MOST_HOUSES];
        final int[] houseStone = new int[MOST_HOUSES];
        int heirs;
        final int[] heirHouse = new int[MOST_HEIRS];
        int walls;
        /** Of each WALL those that must be ahead of it, as bits. */
        final int[] needs = new int[MOST_WALLS];
        final int[] coins = new int[MOST_WALLS];
        final int[] smells = new int[MOST_WALLS];

        void clear() {
            wide = 0;
            high = 0;
            stones = 0;
            houses = 0;
            heirs = 0;
            walls = 0;
            for (int i = 0; i < wet.length; i++) {
                wet[i] = false;
            }
            for (int i = 0; i < MOST_WALLS; i++) {
                needs[i] = 0;
                coins[i] = NONE;
                smells[i] = NONE;
            }
        }

        boolean isOn(int x, int y) {
            return x >= 0 && x < wide && y >= 0 && y < high;
        }

        boolean isWet(int x, int y) {
            int cell = y * wide + x;
            return cell >= 0 && cell < wet.length && wet[cell];
        }

        void addWater(int x, int y) {
            int cell = y * wide + x;
            if (cell >= 0 && cell < wet.length) {
                wet[cell] = true;
            }
        }

        int stonePart(int s, int what) {
            int at = s * STONE_PARTS + what;
            return at >= 0 && at < stoneParts.length ? stoneParts[at] : 0;
        }

        void setStonePart(int s, int what, int value) {
            int at = s * STONE_PARTS + what;
            if (at >= 0 && at < stoneParts.length) {
                stoneParts[at] = value;
            }
        }

        /** How far a CELL is from a house's core, the greater of x and y counting. */
        int apart(int h, int x, int y) {
            int east = x < coreX[h] ? coreX[h] - x : x - coreX[h];
            int south = y < coreY[h] ? coreY[h] - y : y - coreY[h];
            return east < south ? south : east;
        }

        boolean isTold(int wall, int other) {
            return (needs[other] >> wall & 1) == 1 || (needs[wall] >> other & 1) == 1;
        }
    }

    /** What years and ACTS change; copies of it are kept for UNDO, MARKS and what will be. */
    private static final class State {
        int year;
        int seed;
        final int[] counts = new int[MOST_HOUSES];
        final int[] families = new int[MOST_HOUSES];
        final int[] golds = new int[MOST_HOUSES];
        final int[] rooms = new int[MOST_HEIRS];
        final int[] parts = new int[MOST_HOUSES * MOST_SKINS * SKIN_PARTS];

        void copyFrom(State other) {
            year = other.year;
            seed = other.seed;
            System.arraycopy(other.counts, 0, counts, 0, MOST_HOUSES);
            System.arraycopy(other.families, 0, families, 0, MOST_HOUSES);
            System.arraycopy(other.golds, 0, golds, 0, MOST_HOUSES);
            System.arraycopy(other.rooms, 0, rooms, 0, MOST_HEIRS);
            System.arraycopy(other.parts, 0, parts, 0, MOST_HOUSES * MOST_SKINS * SKIN_PARTS);
        }

        /** Houses that are not told have no SKINS, so that sums over all may count them. */
        void clear() {
            year = 0;
            seed = 0;
            for (int h = 0; h < MOST_HOUSES; h++) {
                counts[h] = 0;
            }
        }

        int partOf(int h, int r, int what) {
            int at = (h * MOST_SKINS + r - 1) * SKIN_PARTS + what;
            return at >= 0 && at < parts.length ? parts[at] : 0;
        }

        void setPart(int h, int r, int what, int value) {
            int at = (h * MOST_SKINS + r - 1) * SKIN_PARTS + what;
            if (at >= 0 && at < parts.length) {
                parts[at] = value;
            }
        }

        void addSkin(int h, int stone, int side, int place, int lock, int built) {
            if (counts[h] >= MOST_SKINS) {
                return;
            }
            counts[h]++;
            int r = counts[h];
            setPart(h, r, STONE, stone);
            setPart(h, r, SIDE, side);
            setPart(h, r, PLACE, place);
            setPart(h, r, LOCK, lock);
            setPart(h, r, ROT, 0);
            setPart(h, r, COLLAPSED, 0);
            setPart(h, r, FILLED, 0);
            setPart(h, r, BUILT, built);
        }

        boolean stands(int h, int r) {
            return partOf(h, r, COLLAPSED) == 0;
        }

        boolean isOpen(int h, int r) {
            return stands(h, r) && partOf(h, r, FILLED) == 0;
        }

        boolean isCrowded(int h) {
            int space = counts[h] == 0 ? 1 : 8 * counts[h];
            return families[h] > space;
        }

        int inmost(int h) {
            for (int r = 1; r <= counts[h]; r++) {
                if (stands(h, r)) {
                    return r;
                }
            }
            return 0;
        }

        int fallen(int h) {
            int count = 0;
            for (int r = 1; r <= counts[h]; r++) {
                if (!stands(h, r)) {
                    count++;
                }
            }
            return count;
        }

        int skinsOfAll() {
            int sum = 0;
            for (int h = 0; h < MOST_HOUSES; h++) {
                sum += counts[h];
            }
            return sum;
        }

        int doorOf(int h, int r) {
            return Ring.doorPlace(r, partOf(h, r, SIDE), partOf(h, r, PLACE));
        }

        int roundIn(int h, int r) {
            return Ring.between(r, doorOf(h, r), Ring.inFront(r - 1, doorOf(h, r - 1)));
        }

        int wayTo(int h, int k) {
            if (counts[h] == 0) {
                return 0;
            }
            int inner = k < 1 ? 1 : k;
            int length = k < 1 ? 1 : 0;
            for (int r = counts[h]; r >= inner; r--) {
                if (!isOpen(h, r)) {
                    return NOT;
                }
                length += 1;
                if (r > inner) {
                    length += roundIn(h, r);
                }
            }
            return length;
        }

        int draw() {
            seed = (75 * seed + 74) % SEEDS;
            return seed;
        }
    }

    /** The places of a SKIN of radius r; a side has 2 r of them, its first corner counted. */
    private static final class Ring {
        static int eastOf(int r, int place) {
            if (r < 1) {
                return 0;
            }
            int step = place % (2 * r);
            switch (place / (2 * r)) {
                case 0:
                    return step - r;
                case 1:
                    return r;
                case 2:
                    return r - step;
                default:
                    return -r;
            }
        }

        static int southOf(int r, int place) {
            if (r < 1) {
                return 0;
            }
            int step = place % (2 * r);
            switch (place / (2 * r)) {
                case 0:
                    return -r;
                case 1:
                    return step - r;
                case 2:
                    return r;
                default:
                    return r - step;
            }
        }

        /** On the south and the west the places run against the way that doors are told. */
        static int doorPlace(int r, int side, int at) {
            switch (side) {
                case 0:
                    return 1 + at;
                case 1:
                    return 2 * r + 1 + at;
                case 2:
                    return 6 * r - 1 - at;
                default:
                    return 8 * r - 1 - at;
            }
        }

        static boolean isCorner(int r, int place) {
            return r < 1 || place % (2 * r) == 0;
        }

        /** The place of SKIN r and 1 just outward of one of SKIN r that is no corner. */
        static int inFront(int r, int place) {
            if (r < 1) {
                return 0;
            }
            int side = place / (2 * r);
            int step = place % (2 * r);
            return side * (2 * r + 2) + step + 1;
        }

        static int between(int r, int a, int b) {
            int one = a < b ? b - a : a - b;
            int other = 8 * r - one;
            return one < other ? one : other;
        }
    }

    /** Where houses stand on the land. */
    private static final class Site {
        static int ownersOf(Land land, State state, int x, int y) {
            int bits = 0;
            for (int h = 0; h < land.houses; h++) {
                if (land.apart(h, x, y) <= state.counts[h]) {
                    bits |= 1 << h;
                }
            }
            return bits;
        }

        static boolean isFree(Land land, State state, int x, int y) {
            if (!land.isOn(x, y) || land.isWet(x, y)) {
                return false;
            }
            for (int h = 0; h < land.houses; h++) {
                if (land.apart(h, x, y) <= state.counts[h]) {
                    return false;
                }
            }
            return true;
        }

        static boolean isFit(Land land, State state, int h) {
            int r = state.counts[h] + 1;
            int coreX = land.coreX[h];
            int coreY = land.coreY[h];
            if (r > MOST_SKINS || !land.isOn(coreX - r, coreY - r) || !land.isOn(coreX + r, coreY + r)) {
                return false;
            }
            for (int place = 0; place < 8 * r; place++) {
                int x = coreX + Ring.eastOf(r, place);
                int y = coreY + Ring.southOf(r, place);
                if (land.isWet(x, y) || !isLeftTo(land, state, h, x, y)) {
                    return false;
                }
            }
            return true;
        }

        /** The core is SKIN 0: of a house without others it is the outermost, and can be SHARED. */
        private static boolean isLeftTo(Land land, State state, int h, int x, int y) {
            for (int g = 0; g < land.houses; g++) {
                int apart = land.apart(g, x, y);
                boolean within = land.share ? apart < state.counts[g] : apart <= state.counts[g];
                if (g != h && within) {
                    return false;
                }
            }
            return true;
        }

        static boolean isFrontFree(Land land, State state, int h, int r, int side, int place) {
            int door = Ring.doorPlace(r, side, place);
            int x = land.coreX[h] + Ring.eastOf(r, door) + SIDE_EAST[side];
            int y = land.coreY[h] + Ring.southOf(r, door) + SIDE_SOUTH[side];
            return isFree(land, state, x, y);
        }

        /** As all within stays as it is, the new SKIN's own round alone decides which WAY is least. */
        static int lawDoor(Land land, State state, int h) {
            int outermost = state.counts[h];
            int r = outermost + 1;
            int goal = outermost == 0 ? 0 : Ring.inFront(outermost, state.doorOf(h, outermost));
            int best = NOT;
            int bestRound = 0;
            for (int side = 0; side < SIDES; side++) {
                for (int place = 0; place <= 2 * r - 2; place++) {
                    int round = outermost == 0 ? 0 : Ring.between(r, Ring.doorPlace(r, side, place), goal);
                    boolean better = best == NOT || (land.far ? round > bestRound : round < bestRound);
                    if (better && isFrontFree(land, state, h, r, side, place)) {
                        best = 100 * side + place;
                        bestRound = round;
                    }
                }
            }
            return best;
        }

        static boolean isShut(Land land, State state, int h) {
            int r = state.counts[h];
            if (r == 0) {
                return false;
            }
            int side = state.partOf(h, r, SIDE);
            if (side < 0 || side >= SIDES) {
                return false;
            }
            return !isFrontFree(land, state, h, r, side, state.partOf(h, r, PLACE));
        }

        /** Houses are squares: they meet unless they are apart, or corner to corner only. */
        static boolean isMet(Land land, State state, int h, int g) {
            int reach = state.counts[h] + state.counts[g];
            int east = Math.abs(land.coreX[h] - land.coreX[g]);
            int south = Math.abs(land.coreY[h] - land.coreY[g]);
            return Math.max(east, south) <= reach + 1 && Math.min(east, south) <= reach;
        }

        static int priceOf(Land land, State state, int h, int stone) {
            return land.stonePart(stone, COSTS) * 8 * (state.counts[h] + 1);
        }
    }

    /** Years that go by, and who should grow first. */
    private static final class Years {
        private final int[] row = new int[MOST_HOUSES];
        final int[] best = new int[MOST_HOUSES];

        static void pass(Land land, State state, int[] row) {
            for (int i = 0; i < land.houses && i < row.length; i++) {
                int h = row[i];
                if (state.families[h] > 0) {
                    liveOn(land, state, h);
                    grow(land, state, h);
                }
            }
            state.year++;
        }

        private static void liveOn(Land land, State state, int h) {
            state.golds[h] = Math.min(MOST_GOLD, state.golds[h] + state.families[h] * land.earns);
            if (state.draw() % 100 < land.births) {
                state.families[h] = Math.min(MOST_FAMILY, state.families[h] + 1);
            }
            rotAll(land, state, h);
            if (state.draw() % 100 < land.fire) {
                burn(land, state, h);
            }
        }

        private static void rotAll(Land land, State state, int h) {
            for (int r = 1; r <= state.counts[h]; r++) {
                if (state.isOpen(h, r)) {
                    int stone = state.partOf(h, r, STONE);
                    int rot = state.partOf(h, r, ROT) + land.stonePart(stone, ROTS);
                    if (r > 1 && !state.stands(h, r - 1)) {
                        rot += land.stonePart(stone, KIND) == SOFT ? 2 : 1;
                    }
                    state.setPart(h, r, ROT, rot);
                    if (rot >= land.stonePart(stone, STRONG)) {
                        state.setPart(h, r, COLLAPSED, 1);
                    }
                }
            }
        }

        private static void burn(Land land, State state, int h) {
            for (int r = 1; r <= state.counts[h]; r++) {
                boolean wood = land.stonePart(state.partOf(h, r, STONE), KIND) == WOOD;
                if (wood && state.partOf(h, r, FILLED) == 0) {
                    state.setPart(h, r, COLLAPSED, 1);
                }
            }
        }

        private static void grow(Land land, State state, int h) {
            int stone = land.houseStone[h];
            int price = Site.priceOf(land, state, h, stone);
            if (price > state.golds[h] || !Site.isFit(land, state, h)) {
                return;
            }
            int door = Site.lawDoor(land, state, h);
            if (door == NOT) {
                return;
            }
            state.golds[h] -= price;
            state.addSkin(h, stone, door / 100, door % 100, state.families[h] % 10, state.year);
        }

        /** Leaves the row by which there are most SKINS in best. */
        int mostSkins(Land land, State now, State then, int t) {
            int most = NONE;
            Rows.begin(row, land.houses);
            for (int i = 0; i < ROWS_OF[land.houses]; i++) {
                then.copyFrom(now);
                for (int year = 0; year < t; year++) {
                    pass(land, then, row);
                }
                int skins = then.skinsOfAll();
                if (skins > most) {
                    most = skins;
                    System.arraycopy(row, 0, best, 0, MOST_HOUSES);
                }
                Rows.advance(row, land.houses);
            }
            return most;
        }
    }

    /** Rows of the numbers below n, one behind the other by numbers. */
    private static final class Rows {
        static void begin(int[] row, int n) {
            for (int i = 0; i < n && i < row.length; i++) {
                row[i] = i;
            }
        }

        static void advance(int[] row, int n) {
            if (n > row.length) {
                return;
            }
            int turn = n - 2;
            while (turn >= 0 && row[turn] > row[turn + 1]) {
                turn--;
            }
            if (turn < 0) {
                return;
            }
            int above = n - 1;
            while (above > turn && row[above] < row[turn]) {
                above--;
            }
            swap(row, turn, above);
            for (int low = turn + 1, top = n - 1; low < top; low++, top--) {
                swap(row, low, top);
            }
        }

        private static void swap(int[] row, int i, int j) {
            int kept = row[i];
            row[i] = row[j];
            row[j] = kept;
        }
    }

    /** The cheapest ways through doors and walls; minutes count first, then walls. */
    private static final class Burglar {
        /** More than there can be walls, so that one number holds minutes and walls. */
        static final int MINUTE = 8;
        private static final int WALL = 1;
        private static final int UNREACHED = 1000000;

        private int[] here = new int[8 * MOST_SKINS];
        private int[] within = new int[8 * MOST_SKINS];

        int cheapest(Land land, State state, int h, int k) {
            int outermost = state.counts[h];
            if (outermost == 0) {
                return 0;
            }
            int inner = k < 1 ? 1 : k;
            empty(here);
            int start = state.doorOf(h, outermost);
            if (start >= 0 && start < here.length) {
                here[start] = Math.min(byDoor(state, h, outermost), byWall(land, state, h, outermost));
            }
            for (int r = outermost - 1; r >= inner; r--) {
                goRound(r + 1);
                goIn(land, state, h, r);
            }
            return least(8 * inner) + (k < 1 ? MINUTE : 0);
        }

        private static void empty(int[] costs) {
            for (int i = 0; i < costs.length; i++) {
                costs[i] = UNREACHED;
            }
        }

        private static int byDoor(State state, int h, int r) {
            if (!state.stands(h, r)) {
                return MINUTE;
            }
            if (!state.isOpen(h, r)) {
                return 20 * MINUTE;
            }
            return (state.partOf(h, r, LOCK) + 1) * MINUTE;
        }

        private static int byWall(Land land, State state, int h, int r) {
            if (!state.stands(h, r)) {
                return MINUTE + WALL;
            }
            if (!state.isOpen(h, r)) {
                return 20 * MINUTE + WALL;
            }
            int strong = land.stonePart(state.partOf(h, r, STONE), STRONG);
            return Math.max(1, strong - state.partOf(h, r, ROT)) * MINUTE + WALL;
        }

        /** Twice about, each way, as the cheapest place may lie anywhere. */
        private void goRound(int r) {
            int places = Math.min(8 * r, here.length);
            if (places < 1) {
                return;
            }
            for (int i = 0; i < 2 * places; i++) {
                int next = (i + 1) % places;
                here[next] = Math.min(here[next], here[i % places] + MINUTE);
            }
            for (int i = 2 * places; i > 0; i--) {
                int next = (i - 1) % places;
                here[next] = Math.min(here[next], here[i % places] + MINUTE);
            }
        }

        private void goIn(Land land, State state, int h, int r) {
            int door = state.doorOf(h, r);
            int wallCost = byWall(land, state, h, r);
            int doorCost = Math.min(wallCost, byDoor(state, h, r));
            empty(within);
            for (int place = 0; place < 8 * r && place < within.length; place++) {
                int front = Ring.inFront(r, place);
                if (!Ring.isCorner(r, place) && front < here.length) {
                    within[place] = here[front] + (place == door ? doorCost : wallCost);
                }
            }
            int[] left = here;
            here = within;
            within = left;
        }

        private int least(int places) {
            int best = UNREACHED;
            for (int i = 0; i < places && i < here.length; i++) {
                best = Math.min(best, here[i]);
            }
            return best;
        }
    }

    /** The rows in which the WALLS can have been built. */
    private static final class WallOrders {
        private final int[] row = new int[MOST_WALLS];
        private final int[] rowYears = new int[MOST_WALLS];
        int count;
        final int[] soon = new int[MOST_WALLS];
        final int[] late = new int[MOST_WALLS];
        /** Of each WALL those that are ahead of it in each ORDER, as bits. */
        final int[] sureAhead = new int[MOST_WALLS];

        void lookAtAll(Land land, int year) {
            count = 0;
            for (int w = 0; w < MOST_WALLS; w++) {
                soon[w] = LAST_YEAR;
                late[w] = 0;
                sureAhead[w] = -1;
            }
            Rows.begin(row, land.walls);
            for (int i = 0; i < ROWS_OF[land.walls]; i++) {
                if (canBe(land, year)) {
                    count++;
                    noteRow(land, year);
                }
                Rows.advance(row, land.walls);
            }
        }

        int wallAt(Land land, int year, int i, int n) {
            int seen = 0;
            Rows.begin(row, land.walls);
            for (int j = 0; j < ROWS_OF[land.walls]; j++) {
                if (canBe(land, year)) {
                    if (seen == i) {
                        return row[n];
                    }
                    seen++;
                }
                Rows.advance(row, land.walls);
            }
            return NOT;
        }

        /** Each WALL gets the first year that it can have in this row. */
        private boolean canBe(Land land, int year) {
            int ahead = 0;
            int next = 0;
            for (int i = 0; i < land.walls; i++) {
                int w = row[i];
                if ((land.needs[w] & ~ahead) != 0) {
                    return false;
                }
                int from = Math.max(next, land.coins[w]);
                if (from > lastFor(land, year, w)) {
                    return false;
                }
                rowYears[i] = from;
                next = from + 1;
                ahead |= 1 << w;
            }
            return true;
        }

        private static int lastFor(Land land, int year, int w) {
            int last = year - 1;
            return land.smells[w] == NONE ? last : Math.min(last, land.smells[w] - 1);
        }

        private void noteRow(Land land, int year) {
            int ahead = 0;
            for (int i = 0; i < land.walls; i++) {
                int w = row[i];
                soon[w] = Math.min(soon[w], rowYears[i]);
                sureAhead[w] &= ahead;
                ahead |= 1 << w;
            }
            int to = year;
            for (int i = land.walls - 1; i >= 0; i--) {
                int w = row[i];
                to = Math.min(to - 1, lastFor(land, year, w));
                late[w] = Math.max(late[w], to);
            }
        }
    }

    /** What can be undone, and what is marked. */
    private static final class Past {
        private final State[] kept = new State[MOST_ACTS];
        private final State[] marked = new State[MOST_MARKS];
        private int oldest;
        int acts;
        int marks;

        Past() {
            for (int i = 0; i < MOST_ACTS; i++) {
                kept[i] = new State();
            }
            for (int i = 0; i < MOST_MARKS; i++) {
                marked[i] = new State();
            }
        }

        void forget() {
            acts = 0;
            marks = 0;
        }

        void keep(State now) {
            if (acts == MOST_ACTS) {
                oldest = (oldest + 1) % MOST_ACTS;
                acts--;
            }
            kept[(oldest + acts) % MOST_ACTS].copyFrom(now);
            acts++;
        }

        boolean stepBack(State now) {
            if (acts == 0) {
                return false;
            }
            acts--;
            now.copyFrom(kept[(oldest + acts) % MOST_ACTS]);
            return true;
        }

        int addMark(State now) {
            if (marks >= MOST_MARKS) {
                return NONE;
            }
            marked[marks].copyFrom(now);
            marks++;
            return marks - 1;
        }

        boolean goToMark(State now, int mark) {
            if (mark < 0 || mark >= marks) {
                return false;
            }
            now.copyFrom(marked[mark]);
            acts = 0;
            return true;
        }
    }

    /** The TOKENS of a text, one at a time. */
    private static final class Tokens {
        static final int END = 0;
        static final int WORD = 1;
        static final int WHOLE = 2;
        static final int SIGN = 3;
        static final int BAD = 4;
        private static final int LONGEST_WORD = 8;
        private static final int LONGEST_WHOLE = 3;

        private int[] tape;
        private int end;
        private int at;
        int kind;
        int start;
        /** Where the TOKEN ahead of this one stands. */
        int last;
        /** Of a WHOLE its number, of a sign its byte. */
        int value;
        /** Of a WORD its letters, five bits each. */
        long letters;

        void begin(int[] bytes, int length) {
            tape = bytes;
            end = length;
            at = 0;
            advance();
        }

        private int byteAt(int i) {
            return i >= 0 && i < end && i < tape.length ? tape[i] : NONE;
        }

        private static boolean isLetter(int sign) {
            return sign >= 'a' && sign <= 'z';
        }

        private static boolean isDigit(int sign) {
            return sign >= '0' && sign <= '9';
        }

        void advance() {
            last = start;
            while (at < end && byteAt(at) == ' ') {
                at++;
            }
            start = at;
            int sign = byteAt(at);
            if (sign == NONE) {
                kind = END;
            } else if (isLetter(sign)) {
                takeWord();
            } else if (isDigit(sign)) {
                takeWhole();
            } else {
                kind = sign == ';' || sign == ',' ? SIGN : BAD;
                value = sign;
                at++;
            }
        }

        private void takeWord() {
            letters = 0;
            while (at < end && isLetter(byteAt(at))) {
                letters = letters << 5 | byteAt(at) - 'a' + 1;
                at++;
            }
            kind = at - start > LONGEST_WORD ? BAD : WORD;
        }

        private void takeWhole() {
            value = 0;
            while (at < end && isDigit(byteAt(at))) {
                value = value * 10 + byteAt(at) - '0';
                at++;
            }
            kind = at - start > LONGEST_WHOLE ? BAD : WHOLE;
        }

        boolean isWord(String word) {
            if (kind != WORD || at - start != word.length()) {
                return false;
            }
            for (int i = 0; i < word.length(); i++) {
                int place = start + i;
                if (place >= tape.length || tape[place] != word.charAt(i)) {
                    return false;
                }
            }
            return true;
        }
    }

    /** Reads a LAND; behind the first FAULT nothing more is read, so that it is the leftmost. */
    private static final class Reader {
        private static final int FORM = 1;
        private static final int UNTOLD = 2;
        private static final int AGAIN = 3;
        private static final int BOUNDS = 4;
        private static final int MANY = 5;
        private static final int LACKS = 6;
        private static final int BAD_SITE = 7;

        private static final int LAND_LINE = 0;
        private static final int YEARS_LINE = 1;
        private static final int WATER_LINE = 2;
        private static final int STONE_LINE = 3;
        private static final int HOUSE_LINE = 4;
        private static final int SKIN_LINE = 5;
        private static final int HEIR_LINE = 6;
        private static final int WALL_LINE = 7;
        private static final int OLDER_LINE = 8;
        private static final int COIN_LINE = 9;
        private static final int SMELL_LINE = 10;

        private static final int MOST_NAMES = MOST_STONES + MOST_HOUSES + MOST_HEIRS + MOST_WALLS;

        private final Tokens tokens = new Tokens();
        private Land land;
        private State state;
        int fault;
        int place;
        private boolean landTold;
        private boolean yearsTold;
        private int waters;
        private int olders;
        private final long[] names = new long[MOST_NAMES];
        private final int[] sorts = new int[MOST_NAMES];
        private final int[] numbers = new int[MOST_NAMES];
        private int named;

        void readAll(int[] tape, int length, Land newLand, State newState) {
            land = newLand;
            state = newState;
            land.clear();
            state.clear();
            fault = 0;
            place = 0;
            landTold = false;
            yearsTold = false;
            waters = 0;
            olders = 0;
            named = 0;
            tokens.begin(tape, length);
            readLine();
            for (int i = 0; i < TAPE_BYTES && fault == 0 && tokens.kind != Tokens.END; i++) {
                sign(';');
                readLine();
            }
            if (!yearsTold || land.stones == 0 || land.houses == 0) {
                fail(LACKS, length);
            }
        }

        private void fail(int number, int at) {
            if (fault == 0) {
                fault = number;
                place = at;
            }
        }

        private void readLine() {
            int sort = lineSort();
            if (sort == NONE) {
                fail(FORM, tokens.start);
            } else {
                checkLine(sort);
            }
            if (fault != 0) {
                return;
            }
            tokens.advance();
            switch (sort) {
                case LAND_LINE:
                    readLand();
                    break;
                case YEARS_LINE:
                    readYears();
                    break;
                case WATER_LINE:
                    readWater();
                    break;
                case STONE_LINE:
                    readStone();
                    break;
                case HOUSE_LINE:
                    readHouse();
                    break;
                case SKIN_LINE:
                    readSkin();
                    break;
                case HEIR_LINE:
                    readHeir();
                    break;
                case WALL_LINE:
                    readWall();
                    break;
                case OLDER_LINE:
                    readOlder();
                    break;
                default:
                    readYearOfWall(sort == COIN_LINE ? land.coins : land.smells);
                    break;
            }
        }

        /** FAULTS of a LINE's first WORD, the least number first. */
        private void checkLine(int sort) {
            if (isLineAgain(sort)) {
                fail(AGAIN, tokens.start);
            } else if (isLineTooMany(sort)) {
                fail(MANY, tokens.start);
            } else if (sort != LAND_LINE && !landTold || sort == WATER_LINE && land.houses > 0) {
                fail(LACKS, tokens.start);
            }
        }

        private int lineSort() {
            if (tokens.isWord("land")) {
                return LAND_LINE;
            }
            if (tokens.isWord("years")) {
                return YEARS_LINE;
            }
            if (tokens.isWord("water")) {
                return WATER_LINE;
            }
            if (tokens.isWord("stone")) {
                return STONE_LINE;
            }
            if (tokens.isWord("house")) {
                return HOUSE_LINE;
            }
            if (tokens.isWord("skin")) {
                return SKIN_LINE;
            }
            if (tokens.isWord("heir")) {
                return HEIR_LINE;
            }
            if (tokens.isWord("wall")) {
                return WALL_LINE;
            }
            if (tokens.isWord("older")) {
                return OLDER_LINE;
            }
            if (tokens.isWord("coin")) {
                return COIN_LINE;
            }
            return tokens.isWord("smell") ? SMELL_LINE : NONE;
        }

        private boolean isLineAgain(int sort) {
            return sort == LAND_LINE && landTold || sort == YEARS_LINE && yearsTold;
        }

        private boolean isLineTooMany(int sort) {
            switch (sort) {
                case WATER_LINE:
                    return waters >= MOST_WATER;
                case STONE_LINE:
                    return land.stones >= MOST_STONES;
                case HOUSE_LINE:
                    return land.houses >= MOST_HOUSES;
                case HEIR_LINE:
                    return land.heirs >= MOST_HEIRS;
                case WALL_LINE:
                    return land.walls >= MOST_WALLS;
                case OLDER_LINE:
                    return olders >= MOST_OLDER;
                default:
                    return false;
            }
        }

        private void readLand() {
            word("wide");
            land.wide = whole(3, MOST_WIDE);
            word("high");
            land.high = whole(3, MOST_WIDE);
            word("doors");
            land.far = choice("near", "far", "", "") == 1;
            word("share");
            land.share = choice("no", "yes", "", "") == 1;
            landTold = true;
        }

        private void readYears() {
            state.year = whole(0, 900);
            word("births");
            land.births = whole(0, 100);
            word("fire");
            land.fire = whole(0, 100);
            word("earns");
            land.earns = whole(0, 9);
            yearsTold = true;
        }

        private void readWater() {
            int x = whole(0, land.wide - 1);
            sign(',');
            int y = whole(0, land.high - 1);
            if (land.isWet(x, y)) {
                fail(AGAIN, tokens.last);
            }
            land.addWater(x, y);
            waters++;
        }

        private void readStone() {
            int number = land.stones;
            newName(STONE_LINE, number);
            land.setStonePart(number, KIND, choice("hard", "soft", "wood", ""));
            word("costs");
            land.setStonePart(number, COSTS, whole(1, 9));
            word("warm");
            land.setStonePart(number, WARM, whole(0, 9));
            word("rots");
            land.setStonePart(number, ROTS, whole(0, 9));
            word("strong");
            land.setStonePart(number, STRONG, whole(1, 99));
            land.stones++;
        }

        private void readHouse() {
            int number = land.houses;
            newName(HOUSE_LINE, number);
            word("at");
            int x = whole(0, land.wide - 1);
            sign(',');
            int y = whole(0, land.high - 1);
            if (!Site.isFree(land, state, x, y)) {
                fail(BAD_SITE, tokens.last);
            }
            word("of");
            int stone = name(STONE_LINE);
            word("family");
            int family = whole(0, MOST_FAMILY);
            word("gold");
            int gold = whole(0, MOST_GOLD);
            if (fault == 0 && number < MOST_HOUSES) {
                land.coreX[number] = x;
                land.coreY[number] = y;
                land.houseStone[number] = stone;
                state.families[number] = family;
                state.golds[number] = gold;
                land.houses++;
            }
        }

        private void readSkin() {
            int house = name(HOUSE_LINE);
            if (fault != 0) {
                return;
            }
            if (state.counts[house] >= MOST_SKINS) {
                fail(MANY, tokens.last);
            }
            if (!Site.isFit(land, state, house)) {
                fail(BAD_SITE, tokens.last);
            }
            int stone = name(STONE_LINE);
            int side = choice("north", "east", "south", "west");
            int at = whole(0, 2 * state.counts[house]);
            word("lock");
            int lock = whole(0, MOST_LOCK);
            if (fault == 0) {
                state.addSkin(house, stone, side, at, lock, NOT);
            }
        }

        private void readHeir() {
            int number = land.heirs;
            newName(HEIR_LINE, number);
            int house = name(HOUSE_LINE);
            int room = whole(0, state.counts[house]);
            if (fault == 0 && number < MOST_HEIRS) {
                land.heirHouse[number] = house;
                state.rooms[number] = room;
                land.heirs++;
            }
        }

        private void readWall() {
            newName(WALL_LINE, land.walls);
            land.walls++;
        }

        private void readOlder() {
            int wall = name(WALL_LINE);
            int other = name(WALL_LINE);
            if (wall == other || land.isTold(wall, other)) {
                fail(AGAIN, tokens.last);
            }
            land.needs[other] |= 1 << wall;
            olders++;
        }

        private void readYearOfWall(int[] signs) {
            int wall = name(WALL_LINE);
            if (signs[wall] != NONE) {
                fail(AGAIN, tokens.last);
            }
            signs[wall] = whole(0, LAST_YEAR);
        }

        private void word(String due) {
            if (fault != 0) {
                return;
            }
            if (tokens.isWord(due)) {
                tokens.advance();
            } else {
                fail(FORM, tokens.start);
            }
        }

        private void sign(char due) {
            if (fault != 0) {
                return;
            }
            if (tokens.kind == Tokens.SIGN && tokens.value == due) {
                tokens.advance();
            } else {
                fail(FORM, tokens.start);
            }
        }

        /** Which of up to four words stands here; the empty text stands for none. */
        private int choice(String a, String b, String c, String d) {
            int found = tokens.isWord(a) ? 0 : tokens.isWord(b) ? 1
                    : tokens.isWord(c) ? 2 : tokens.isWord(d) ? 3 : NONE;
            if (found == NONE) {
                fail(FORM, tokens.start);
            }
            if (fault != 0) {
                return 0;
            }
            tokens.advance();
            return found;
        }

        private int whole(int least, int most) {
            if (tokens.kind != Tokens.WHOLE) {
                fail(FORM, tokens.start);
            } else if (tokens.value < least || tokens.value > most) {
                fail(BOUNDS, tokens.start);
            }
            if (fault != 0) {
                return least;
            }
            int value = tokens.value;
            tokens.advance();
            return value;
        }

        private void newName(int sort, int number) {
            if (tokens.kind != Tokens.WORD || lineSort() != NONE) {
                fail(FORM, tokens.start);
            }
            if (findName() != NONE) {
                fail(AGAIN, tokens.start);
            }
            if (fault != 0 || named >= MOST_NAMES) {
                return;
            }
            names[named] = tokens.letters;
            sorts[named] = sort;
            numbers[named] = number;
            named++;
            tokens.advance();
        }

        /** The number of a NAME of that sort; 0 behind a FAULT, which no one reads. */
        private int name(int sort) {
            if (tokens.kind != Tokens.WORD || lineSort() != NONE) {
                fail(FORM, tokens.start);
            }
            int found = findName();
            if (found == NONE || sorts[found] != sort) {
                fail(UNTOLD, tokens.start);
            }
            if (fault != 0 || found == NONE) {
                return 0;
            }
            tokens.advance();
            return numbers[found];
        }

        private int findName() {
            for (int i = 0; i < named; i++) {
                if (tokens.kind == Tokens.WORD && names[i] == tokens.letters) {
                    return i;
                }
            }
            return NONE;
        }
    }
}
