import java.util.ArrayDeque;
import java.util.ArrayList;
import java.util.Arrays;
import java.util.Deque;
import java.util.HashMap;
import java.util.HashSet;
import java.util.List;
import java.util.Map;
import java.util.PriorityQueue;
import java.util.Set;

/**
 * The document told a second time, slowly: by sets of CELLS, walks and searches, so that it shares
 * no shortcut with the class. It answers only where a call isn't refused for its numbers.
 */
final class Model {
    static final int[][] STEP = {{0, -1}, {1, 0}, {0, 1}, {-1, 0}};

    static final class Skin {
        int stone;
        int side;
        int place;
        int lock;
        int rot;
        boolean collapsed;
        boolean filled;
        int built = -2;

        Skin copy() {
            Skin s = new Skin();
            s.stone = stone;
            s.side = side;
            s.place = place;
            s.lock = lock;
            s.rot = rot;
            s.collapsed = collapsed;
            s.filled = filled;
            s.built = built;
            return s;
        }
    }

    static final class House {
        int x;
        int y;
        int stone;
        int family;
        int gold;
        List<Skin> skins = new ArrayList<>();

        Skin outermost() {
            return skins.get(skins.size() - 1);
        }

        House copy() {
            House h = new House();
            h.x = x;
            h.y = y;
            h.stone = stone;
            h.family = family;
            h.gold = gold;
            for (Skin s : skins) {
                h.skins.add(s.copy());
            }
            return h;
        }
    }

    int wide;
    int high;
    boolean far;
    boolean share;
    int births;
    int fire;
    int earns;
    Set<Integer> water = new HashSet<>();
    /** Each: kind, costs, warm, rots, strong. */
    List<int[]> stones = new ArrayList<>();
    List<House> houses = new ArrayList<>();
    /** Each: house, room. */
    List<int[]> heirs = new ArrayList<>();
    int walls;
    List<int[]> older = new ArrayList<>();
    Map<Integer, Integer> coin = new HashMap<>();
    Map<Integer, Integer> smell = new HashMap<>();
    int year;
    long seed;

    Model copy() {
        Model m = new Model();
        m.wide = wide;
        m.high = high;
        m.far = far;
        m.share = share;
        m.births = births;
        m.fire = fire;
        m.earns = earns;
        m.water = water;
        m.stones = stones;
        for (House h : houses) {
            m.houses.add(h.copy());
        }
        for (int[] heir : heirs) {
            m.heirs.add(heir.clone());
        }
        m.walls = walls;
        m.older = older;
        m.coin = coin;
        m.smell = smell;
        m.year = year;
        m.seed = seed;
        return m;
    }

    // ---- cells

    boolean onLand(int x, int y) {
        return x >= 0 && y >= 0 && x < wide && y < high;
    }

    /** The CELLS of a ring as they go round, each x, y. */
    static List<int[]> ring(House h, int r) {
        List<int[]> cells = new ArrayList<>();
        if (r == 0) {
            cells.add(new int[] {h.x, h.y});
            return cells;
        }
        int x = h.x - r;
        int y = h.y - r;
        for (int side = 1; side <= 4; side++) {
            for (int i = 0; i < 2 * r; i++) {
                cells.add(new int[] {x, y});
                x += STEP[side % 4][0];
                y += STEP[side % 4][1];
            }
        }
        return cells;
    }

    static boolean has(House h, int x, int y) {
        for (int r = 0; r <= h.skins.size(); r++) {
            for (int[] cell : ring(h, r)) {
                if (cell[0] == x && cell[1] == y) {
                    return true;
                }
            }
        }
        return false;
    }

    int whose(int x, int y) {
        int bits = 0;
        for (int h = 0; h < houses.size(); h++) {
            if (has(houses.get(h), x, y)) {
                bits += 1 << h;
            }
        }
        return bits;
    }

    boolean isFree(int x, int y) {
        return onLand(x, y) && !water.contains(y * wide + x) && whose(x, y) == 0;
    }

    boolean fits(int h) {
        House house = houses.get(h);
        if (house.skins.size() == 6) {
            return false;
        }
        for (int[] cell : ring(house, house.skins.size() + 1)) {
            if (!onLand(cell[0], cell[1]) || water.contains(cell[1] * wide + cell[0])) {
                return false;
            }
            for (House other : houses) {
                if (other != house && has(other, cell[0], cell[1])) {
                    boolean outer = false;
                    for (int[] c : ring(other, other.skins.size())) {
                        outer |= c[0] == cell[0] && c[1] == cell[1];
                    }
                    if (!share || !outer) {
                        return false;
                    }
                }
            }
        }
        return true;
    }

    static int[] doorCell(House h, int r, int side, int place) {
        switch (side) {
            case 0:
                return new int[] {h.x - r + 1 + place, h.y - r};
            case 1:
                return new int[] {h.x + r, h.y - r + 1 + place};
            case 2:
                return new int[] {h.x - r + 1 + place, h.y + r};
            default:
                return new int[] {h.x - r, h.y - r + 1 + place};
        }
    }

    static int[] doorCell(House h, int r) {
        Skin s = h.skins.get(r - 1);
        return doorCell(h, r, s.side, s.place);
    }

    static int[] frontCell(House h, int r) {
        Skin s = h.skins.get(r - 1);
        int[] door = doorCell(h, r);
        return new int[] {door[0] + STEP[s.side][0], door[1] + STEP[s.side][1]};
    }

    boolean shut(int h) {
        House house = houses.get(h);
        if (house.skins.isEmpty()) {
            return false;
        }
        int[] front = frontCell(house, house.skins.size());
        return !isFree(front[0], front[1]);
    }

    static int placeOf(House h, int r, int[] cell) {
        List<int[]> cells = ring(h, r);
        for (int i = 0; i < cells.size(); i++) {
            if (Arrays.equals(cells.get(i), cell)) {
                return i;
            }
        }
        throw new IllegalStateException("no place");
    }

    static int round(House h, int r) {
        int from = placeOf(h, r, doorCell(h, r));
        int to = placeOf(h, r, frontCell(h, r - 1));
        int there = 0;
        for (int at = from; at != to; at = (at + 1) % (8 * r)) {
            there++;
        }
        int back = 0;
        for (int at = from; at != to; at = (at + 8 * r - 1) % (8 * r)) {
            back++;
        }
        return Math.min(there, back);
    }

    static int way(House h, int k, boolean blind) {
        int n = h.skins.size();
        if (n == 0) {
            return 0;
        }
        int minutes = 0;
        for (int r = n; r >= Math.max(k, 1); r--) {
            Skin s = h.skins.get(r - 1);
            if (!blind && (s.collapsed || s.filled)) {
                return -2;
            }
            minutes++;
            if (r > Math.max(k, 1)) {
                minutes += round(h, r);
            }
        }
        return k == 0 ? minutes + 1 : minutes;
    }

    int door(int h) {
        if (!fits(h)) {
            return -2;
        }
        House house = houses.get(h);
        int r = house.skins.size() + 1;
        int best = -2;
        int bestWay = 0;
        for (int side = 0; side < 4; side++) {
            for (int place = 0; place <= 2 * r - 2; place++) {
                House tried = house.copy();
                Skin s = new Skin();
                s.side = side;
                s.place = place;
                tried.skins.add(s);
                int[] front = frontCell(tried, r);
                if (!isFree(front[0], front[1])) {
                    continue;
                }
                int length = way(tried, 0, true);
                if (best == -2 || (far ? length > bestWay : length < bestWay)) {
                    best = 100 * side + place;
                    bestWay = length;
                }
            }
        }
        return best;
    }

    int costs(int h, int stone) {
        return stones.get(stone)[1] * ring(houses.get(h), houses.get(h).skins.size() + 1).size();
    }

    int warm(int h, int r) {
        House house = houses.get(h);
        int sum = 0;
        for (int i = 1; i <= house.skins.size(); i++) {
            Skin s = house.skins.get(i - 1);
            if (i >= r && !s.collapsed) {
                sum += stones.get(s.stone)[2];
            }
        }
        return sum;
    }

    /** Minutes and walls to a SKIN by a search over all places: 100 times the one and the other. */
    int through(int h, int k) {
        House house = houses.get(h);
        int n = house.skins.size();
        if (n == 0) {
            return 0;
        }
        if (k == 0) {
            return through(h, 1) + 100;
        }
        Map<Integer, Integer> done = new HashMap<>();
        PriorityQueue<int[]> open = new PriorityQueue<>((a, b) -> a[0] - b[0]);
        int first = placeOf(house, n, doorCell(house, n));
        open.add(new int[] {enterByDoor(house, n), n, first});
        open.add(new int[] {enterByWall(house, n), n, first});
        while (!open.isEmpty()) {
            int[] at = open.poll();
            int r = at[1];
            if (r == k) {
                return at[0];
            }
            if (done.putIfAbsent(r * 100 + at[2], at[0]) != null) {
                continue;
            }
            open.add(new int[] {at[0] + 100, r, (at[2] + 1) % (8 * r)});
            open.add(new int[] {at[0] + 100, r, (at[2] + 8 * r - 1) % (8 * r)});
            for (int side = 0; side < 4; side++) {
                for (int place = 0; place <= 2 * (r - 1) - 2; place++) {
                    int[] cell = doorCell(house, r - 1, side, place);
                    int[] front = {cell[0] + STEP[side][0], cell[1] + STEP[side][1]};
                    if (placeOf(house, r, front) == at[2]) {
                        int into = placeOf(house, r - 1, cell);
                        open.add(new int[] {at[0] + enterByWall(house, r - 1), r - 1, into});
                        if (Arrays.equals(cell, doorCell(house, r - 1))) {
                            open.add(new int[] {at[0] + enterByDoor(house, r - 1), r - 1, into});
                        }
                    }
                }
            }
        }
        throw new IllegalStateException("no way");
    }

    private int enterByDoor(House h, int r) {
        Skin s = h.skins.get(r - 1);
        return 100 * (s.collapsed ? 1 : s.filled ? 20 : s.lock + 1);
    }

    private int enterByWall(House h, int r) {
        Skin s = h.skins.get(r - 1);
        return 100 * (s.collapsed ? 1 : s.filled ? 20 : Math.max(1, stones.get(s.stone)[4] - s.rot)) + 1;
    }

    // ---- years

    private int draw() {
        seed = (75 * seed + 74) % 65537;
        return (int) (seed % 100);
    }

    void passYear(List<Integer> row) {
        for (int h : row) {
            House house = houses.get(h);
            if (house.family == 0) {
                continue;
            }
            house.gold = Math.min(999, house.gold + house.family * earns);
            if (draw() < births) {
                house.family = Math.min(99, house.family + 1);
            }
            for (int i = 0; i < house.skins.size(); i++) {
                Skin s = house.skins.get(i);
                if (s.collapsed || s.filled) {
                    continue;
                }
                s.rot += stones.get(s.stone)[3];
                if (i > 0 && house.skins.get(i - 1).collapsed) {
                    s.rot += stones.get(s.stone)[0] == 1 ? 2 : 1;
                }
                s.collapsed = s.rot >= stones.get(s.stone)[4];
            }
            if (draw() < fire) {
                for (Skin s : house.skins) {
                    s.collapsed |= stones.get(s.stone)[0] == 2 && !s.filled;
                }
            }
            int door = door(h);
            int price = house.skins.size() == 6 ? 0 : costs(h, house.stone);
            if (door != -2 && price <= house.gold) {
                house.gold -= price;
                add(h, house.stone, door / 100, door % 100, house.family % 10, year);
            }
        }
        year++;
    }

    void add(int h, int stone, int side, int place, int lock, int built) {
        Skin s = new Skin();
        s.stone = stone;
        s.side = side;
        s.place = place;
        s.lock = lock;
        s.built = built;
        houses.get(h).skins.add(s);
    }

    List<Integer> byNumbers() {
        List<Integer> row = new ArrayList<>();
        for (int h = 0; h < houses.size(); h++) {
            row.add(h);
        }
        return row;
    }

    Model in(int t) {
        return in(t, byNumbers());
    }

    Model in(int t, List<Integer> row) {
        Model m = copy();
        for (int i = 0; i < t; i++) {
            m.passYear(row);
        }
        return m;
    }

    int skins() {
        int sum = 0;
        for (House h : houses) {
            sum += h.skins.size();
        }
        return sum;
    }

    boolean met(int h, int g) {
        for (int r = 0; r <= houses.get(h).skins.size(); r++) {
            for (int[] cell : ring(houses.get(h), r)) {
                boolean beside = has(houses.get(g), cell[0], cell[1]);
                for (int[] step : STEP) {
                    beside |= has(houses.get(g), cell[0] + step[0], cell[1] + step[1]);
                }
                if (beside) {
                    return true;
                }
            }
        }
        return false;
    }

    int room(int h) {
        Model m = copy();
        int more = 0;
        for (int door = m.door(h); door != -2; door = m.door(h)) {
            m.add(h, 0, door / 100, door % 100, 0, 0);
            more++;
        }
        return more;
    }

    /** The best row with how many SKINS there are by it ahead. */
    List<Integer> first(int t) {
        List<Integer> best = null;
        for (List<Integer> row : rows(houses.size())) {
            int skins = in(t, row).skins();
            if (best == null || skins > best.get(0)) {
                best = new ArrayList<>(row);
                best.add(0, skins);
            }
        }
        return best;
    }

    static List<List<Integer>> rows(int n) {
        List<List<Integer>> all = new ArrayList<>();
        collect(new ArrayList<>(), n, all);
        return all;
    }

    private static void collect(List<Integer> row, int n, List<List<Integer>> all) {
        if (row.size() == n) {
            all.add(new ArrayList<>(row));
        }
        for (int i = 0; i < n; i++) {
            if (!row.contains(i)) {
                row.add(i);
                collect(row, n, all);
                row.remove(row.size() - 1);
            }
        }
    }

    int heads() {
        int sum = 0;
        for (House h : houses) {
            sum += h.family;
        }
        return sum;
    }

    // ---- taking

    boolean lives(int h, int r) {
        for (int[] heir : heirs) {
            if (heir[0] == h && heir[1] == r) {
                return true;
            }
        }
        return false;
    }

    int inmost(int h) {
        for (int r = 1; r <= houses.get(h).skins.size(); r++) {
            if (!houses.get(h).skins.get(r - 1).collapsed) {
                return r;
            }
        }
        return 0;
    }

    int takes(int h) {
        int r = inmost(h);
        return r == 0 ? -2 : stones.get(houses.get(h).skins.get(r - 1).stone)[1] * 8 * r / 2;
    }

    int worth(int h) {
        Model m = copy();
        int sum = 0;
        for (int r = m.inmost(h); r > 0 && r < houses.get(h).skins.size() && !lives(h, r); r = m.inmost(h)) {
            sum += m.takes(h);
            m.houses.get(h).skins.get(r - 1).collapsed = true;
        }
        return sum;
    }

    // ---- walls

    private boolean mayBe(int wall, int y) {
        return y >= coin.getOrDefault(wall, 0) && y < smell.getOrDefault(wall, 1000) && y < year;
    }

    /** Of each ORDER the years that each of its WALLS can have; found by trying all years. */
    List<List<Integer>> orders(List<boolean[][]> canBe) {
        List<List<Integer>> found = new ArrayList<>();
        for (List<Integer> row : rows(walls)) {
            boolean right = true;
            for (int[] pair : older) {
                right &= row.indexOf(pair[0]) < row.indexOf(pair[1]);
            }
            if (!right) {
                continue;
            }
            boolean[][] from = new boolean[walls][1000];
            boolean[][] to = new boolean[walls][1000];
            for (int i = 0; i < walls; i++) {
                boolean any = i == 0;
                for (int y = 0; y < 1000; y++) {
                    from[i][y] = any && mayBe(row.get(i), y);
                    any |= i > 0 && from[i - 1][y];
                }
            }
            for (int i = walls - 1; i >= 0; i--) {
                boolean any = i == walls - 1;
                for (int y = 999; y >= 0; y--) {
                    to[i][y] = any && mayBe(row.get(i), y);
                    any |= i < walls - 1 && to[i + 1][y];
                }
            }
            boolean[][] both = new boolean[walls][1000];
            boolean all = true;
            for (int i = 0; i < walls; i++) {
                boolean some = false;
                for (int y = 0; y < 1000; y++) {
                    both[row.get(i)][y] = from[i][y] && to[i][y];
                    some |= both[row.get(i)][y];
                }
                all &= some;
            }
            if (all) {
                found.add(row);
                canBe.add(both);
            }
        }
        return found;
    }

    /** What can be undone, kept beside the model by its user. */
    static final class Past {
        final Deque<Model> acts = new ArrayDeque<>();
        final List<Model> marks = new ArrayList<>();

        void keep(Model m) {
            acts.addLast(m.copy());
            if (acts.size() > 10) {
                acts.removeFirst();
            }
        }
    }
}
