import java.util.ArrayList;
import java.util.List;
import java.util.Random;

/** Promises 6 to 50 on lands by chance, each call set beside the model. */
public final class ModelTest {
    private static final int LANDS = 400;

    private final long number;
    private final Random random;
    private final YearSkins x;
    private final Model.Past past = new Model.Past();
    private Model m;

    private ModelTest(long number) {
        this.number = number;
        random = new Random(number * 31 + 7);
        Lands land = new Lands(number);
        m = land.model;
        x = new YearSkins();
        // What was told ahead leaves nothing behind, nor does a text with a fault.
        for (int i = random.nextInt(4); i > 0; i--) {
            String other = new Lands(1000 + random.nextInt(1000)).text.toString();
            Check.tell(x, i == 2 ? other.substring(0, random.nextInt(other.length())) : other);
            if (random.nextBoolean()) {
                x.years(20);
                x.mark();
            }
        }
        Check.due("land " + number, Check.tell(x, land.text.toString()), m.houses.size());
    }

    public static void main(String[] args) {
        for (long number = 0; number < LANDS; number++) {
            ModelTest test = new ModelTest(number);
            test.askAll();
            for (int i = 0; i < 40; i++) {
                test.act();
                test.askNow();
                if (i % 10 == 9) {
                    test.askFuture();
                }
            }
        }
        Check.end();
    }

    private void due(String what, int got, int want) {
        Check.due("land " + number + ": " + what, got, want);
        Check.due("land " + number + ": trouble of " + what, x.trouble(), 0);
    }

    private void askAll() {
        askNow();
        askFuture();
        askWalls();
    }

    private void askNow() {
        int shared = 0;
        int free = 0;
        for (int cy = 0; cy < m.high; cy++) {
            for (int cx = 0; cx < m.wide; cx++) {
                int whose = m.whose(cx, cy);
                shared += Integer.bitCount(whose) > 1 ? 1 : 0;
                free += m.isFree(cx, cy) ? 1 : 0;
                if (random.nextInt(10) == 0) {
                    due("whose", x.whose(cx, cy), whose);
                }
            }
        }
        due("shared", x.shared(), shared);
        due("free", x.free(), free);
        int led = 0;
        for (int h = 0; h < m.houses.size(); h++) {
            askHouse(h);
            if (m.shut(h)) {
                Check.due("land " + number + ": led", Check.led(x, led++), h);
            }
        }
        Check.due("land " + number + ": led", Check.led(x, led), -1);
        for (int i = 0; i < m.heirs.size(); i++) {
            due("heir house", x.heir(i, 0), m.heirs.get(i)[0]);
            due("heir room", x.heir(i, 1), m.heirs.get(i)[1]);
            due("heir warm", x.heir(i, 2), m.warm(m.heirs.get(i)[0], m.heirs.get(i)[1]));
        }
        Check.due("land " + number + ": year", x.size(8), m.year);
        Check.due("land " + number + ": seed", x.size(9), m.seed);
        Check.due("land " + number + ": acts", x.size(10), past.acts.size());
        Check.due("land " + number + ": marks", x.size(11), past.marks.size());
    }

    private void askHouse(int h) {
        Model.House house = m.houses.get(h);
        int n = house.skins.size();
        due("core", x.house(h, 0), house.y * m.wide + house.x);
        due("skins", x.house(h, 1), n);
        due("family", x.house(h, 2), house.family);
        due("gold", x.house(h, 3), house.gold);
        due("stone", x.house(h, 4), house.stone);
        due("shut", x.house(h, 5), m.shut(h) ? 1 : 0);
        due("crowded", x.house(h, 6), house.family > (n == 0 ? 1 : 8 * n) ? 1 : 0);
        due("fits", x.fits(h), m.fits(h) ? 1 : 0);
        due("door", x.door(h), m.door(h));
        due("room", x.room(h), m.room(h));
        due("takes", x.takes(h), m.takes(h));
        due("worth", x.worth(h), m.worth(h));
        int stone = random.nextInt(m.stones.size());
        due("costs", x.costs(h, stone), m.costs(h, stone));
        for (int r = 0; r <= n; r++) {
            due("warm", x.warm(h, r), m.warm(h, r));
            due("light", x.light(h, r), Math.max(0, 9 - 3 * (n - r)));
            due("way", x.way(h, r), Model.way(house, r, false));
            int through = m.through(h, r);
            due("through", x.through(h, r), through / 100);
            due("breaks", x.breaks(h, r), through % 100);
            if (r > 0) {
                askSkin(h, r, house.skins.get(r - 1));
            }
            if (r > 1) {
                due("round", x.round(h, r), Model.round(house, r));
            }
        }
    }

    private void askSkin(int h, int r, Model.Skin s) {
        int[] parts = {s.stone, s.side, s.place, s.lock, s.rot, s.collapsed ? 1 : 0, s.filled ? 1 : 0, s.built};
        for (int what = 0; what < parts.length; what++) {
            due("skin " + what, x.skin(h, r, what), parts[what]);
        }
    }

    private void askFuture() {
        int t = random.nextInt(61);
        Model then = m.in(t);
        due("skinsIn", x.skinsIn(t), then.skins());
        for (int h = 0; h < m.houses.size(); h++) {
            Model.House house = then.houses.get(h);
            int fallen = 0;
            for (Model.Skin s : house.skins) {
                fallen += s.collapsed ? 1 : 0;
            }
            int[] parts = {house.skins.size(), house.family, house.gold, fallen, then.shut(h) ? 1 : 0};
            for (int what = 0; what < parts.length; what++) {
                due("in " + t + " " + what, x.in(h, t, what), parts[what]);
            }
        }
        Model seeded = m.copy();
        seeded.seed = random.nextInt(65537);
        due("heads", x.heads((int) seeded.seed, t), seeded.in(t).heads());
        int early = random.nextInt(8);
        List<Integer> first = m.first(early);
        due("first", x.first(early), first.get(0));
        for (int i = 0; i < m.houses.size(); i++) {
            due("firstAt", x.firstAt(early, i), first.get(i + 1));
        }
        askWhen(random.nextInt(15));
    }

    private void askWhen(int t) {
        int h = random.nextInt(m.houses.size());
        int g = random.nextInt(m.houses.size());
        int met = -2;
        for (int s = t; s >= 0 && h != g; s--) {
            met = m.in(s).met(h, g) ? s : met;
        }
        if (h != g) {
            due("meet", x.meet(h, g, t), met);
        }
        for (int r = 1; r <= m.houses.get(h).skins.size(); r++) {
            int fell = -2;
            for (int s = t; s >= 0; s--) {
                fell = m.in(s).houses.get(h).skins.get(r - 1).collapsed ? s : fell;
            }
            due("falls", x.falls(h, r, t), fell);
        }
    }

    private void askWalls() {
        List<boolean[][]> canBe = new ArrayList<>();
        List<List<Integer>> orders = m.orders(canBe);
        due("orders", x.orders(), orders.size());
        for (int w = 0; w < m.walls; w++) {
            int soonest = -2;
            int latest = -2;
            for (boolean[][] years : canBe) {
                for (int y = 0; y < 1000; y++) {
                    if (years[w][y]) {
                        soonest = soonest == -2 ? y : Math.min(soonest, y);
                        latest = Math.max(latest, y);
                    }
                }
            }
            due("soonest", x.soonest(w), soonest);
            due("latest", x.latest(w), latest);
            for (int v = 0; v < m.walls; v++) {
                boolean sure = !orders.isEmpty();
                for (List<Integer> row : orders) {
                    sure &= row.indexOf(w) < row.indexOf(v);
                }
                if (v != w) {
                    due("surely", x.surely(w, v), sure ? 1 : 0);
                }
            }
            if (!orders.isEmpty()) {
                int i = random.nextInt(orders.size());
                due("order", x.order(i, w), orders.get(i).get(w));
            }
        }
    }

    // ---- acts

    private void act() {
        int h = random.nextInt(m.houses.size());
        int n = m.houses.get(h).skins.size();
        switch (random.nextInt(12)) {
            case 0:
            case 1:
                years(random.nextInt(random.nextBoolean() ? 3 : 22));
                break;
            case 2:
            case 3:
                build(h, random.nextInt(m.stones.size()), random.nextInt(4), random.nextInt(2 * n + 2) - random.nextInt(2), random.nextInt(102) - 1);
                break;
            case 4:
                fill(h, random.nextInt(n + 2));
                break;
            case 5:
                take(h);
                break;
            case 6:
                lock(h, random.nextInt(n + 2), random.nextInt(102) - 1);
                break;
            case 7:
                move(random.nextInt(m.heirs.size() + 1), random.nextInt(n + 2));
                break;
            case 8:
                give(h, random.nextInt(m.houses.size()), random.nextInt(400) - 1);
                break;
            case 9:
                m.seed = random.nextInt(65537);
                answered("seed", x.seed((int) m.seed) ? 1 : 0, 0, 1);
                break;
            case 10:
                undo();
                break;
            default:
                marks();
                break;
        }
    }

    /** A call that may be refused: what it answers then is 0 for a boolean, NONE for an int. */
    private void answered(String what, int got, int trouble, int want) {
        Check.due("land " + number + ": " + what, got, want);
        Check.due("land " + number + ": trouble of " + what, x.trouble(), trouble);
    }

    private void years(int n) {
        int trouble = n < 1 || n > 20 ? 2 : m.year + n > 999 ? 3 : 0;
        if (trouble == 0) {
            past.keep(m);
            m = m.in(n);
        }
        answered("years", x.years(n), trouble, trouble == 0 ? m.skins() : -1);
    }

    private void build(int h, int stone, int side, int place, int lock) {
        Model.House house = m.houses.get(h);
        int r = house.skins.size() + 1;
        int trouble = 0;
        int price = r > 6 ? 0 : m.costs(h, stone);
        if (r > 6) {
            trouble = 3;
        } else if (place < 0 || place > 2 * r - 2 || lock < 0 || lock > 99) {
            trouble = 2;
        } else {
            int[] door = Model.doorCell(house, r, side, place);
            boolean free = m.isFree(door[0] + Model.STEP[side][0], door[1] + Model.STEP[side][1]);
            trouble = !m.fits(h) || !free ? 5 : price > house.gold ? 6 : 0;
        }
        if (trouble == 0) {
            past.keep(m);
            house.gold -= price;
            m.add(h, stone, side, place, lock, m.year);
        }
        answered("build", x.build(h, stone, side, place, lock), trouble, trouble == 0 ? price : -1);
    }

    private void fill(int h, int r) {
        List<Model.Skin> skins = m.houses.get(h).skins;
        int trouble = r < 1 || r > skins.size() ? 1 : 0;
        if (trouble == 0) {
            Model.Skin s = skins.get(r - 1);
            trouble = s.filled || s.collapsed || m.lives(h, r) ? 5 : 0;
        }
        if (trouble == 0) {
            past.keep(m);
            skins.get(r - 1).filled = true;
        }
        answered("fill", x.fill(h, r) ? 1 : 0, trouble, trouble == 0 ? 1 : 0);
    }

    private void take(int h) {
        int r = m.inmost(h);
        int gold = m.takes(h);
        int trouble = r == 0 ? 6 : m.lives(h, r) ? 5 : 0;
        if (trouble == 0) {
            past.keep(m);
            Model.House house = m.houses.get(h);
            house.gold = Math.min(999, house.gold + gold);
            house.skins.get(r - 1).collapsed = true;
            house.skins.get(r - 1).filled = false;
        }
        answered("take", x.take(h), trouble, trouble == 0 ? gold : -1);
    }

    private void lock(int h, int r, int v) {
        List<Model.Skin> skins = m.houses.get(h).skins;
        int trouble = r < 1 || r > skins.size() ? 1 : v < 0 || v > 99 ? 2 : skins.get(r - 1).lock == v ? 5 : 0;
        if (trouble == 0) {
            past.keep(m);
            skins.get(r - 1).lock = v;
        }
        answered("lock", x.lock(h, r, v) ? 1 : 0, trouble, trouble == 0 ? 1 : 0);
    }

    private void move(int i, int r) {
        int trouble = i >= m.heirs.size() ? 1 : 0;
        if (trouble == 0) {
            int[] heir = m.heirs.get(i);
            List<Model.Skin> skins = m.houses.get(heir[0]).skins;
            trouble = r > skins.size() ? 1 : heir[1] == r ? 5 : 0;
            if (trouble == 0 && r > 0 && (skins.get(r - 1).collapsed || skins.get(r - 1).filled)) {
                trouble = 5;
            }
        }
        if (trouble == 0) {
            past.keep(m);
            m.heirs.get(i)[1] = r;
        }
        answered("move", x.move(i, r) ? 1 : 0, trouble, trouble == 0 ? 1 : 0);
    }

    private void give(int h, int g, int v) {
        int trouble = h == g ? 1 : v < 1 || v > m.houses.get(h).gold || m.houses.get(g).gold + v > 999 ? 2 : 0;
        if (trouble == 0) {
            past.keep(m);
            m.houses.get(h).gold -= v;
            m.houses.get(g).gold += v;
        }
        answered("give", x.give(h, g, v) ? 1 : 0, trouble, trouble == 0 ? 1 : 0);
    }

    private void undo() {
        boolean can = !past.acts.isEmpty();
        if (can) {
            m = past.acts.removeLast();
        }
        answered("undo", x.undo() ? 1 : 0, can ? 0 : 6, can ? 1 : 0);
    }

    private void marks() {
        if (random.nextBoolean()) {
            boolean can = past.marks.size() < 3;
            if (can) {
                past.marks.add(m.copy());
            }
            answered("mark", x.mark(), can ? 0 : 3, can ? past.marks.size() - 1 : -1);
        } else {
            int mark = random.nextInt(4);
            boolean can = mark < past.marks.size();
            if (can) {
                m = past.marks.get(mark).copy();
                past.acts.clear();
            }
            answered("back", x.back(mark) ? 1 : 0, can ? 0 : 1, can ? 1 : 0);
        }
    }
}
