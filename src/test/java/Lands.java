import java.util.Random;

/** Lands by chance, as a model and as its text. */
final class Lands {
    private static final String[] KINDS = {"hard", "soft", "wood"};
    private static final String[] SIDES = {"north", "east", "south", "west"};

    final Model model = new Model();
    final StringBuilder text = new StringBuilder();
    private final Random random;

    Lands(long seed) {
        random = new Random(seed);
        model.wide = 3 + random.nextInt(10);
        model.high = 3 + random.nextInt(10);
        model.far = random.nextBoolean();
        model.share = random.nextBoolean();
        text.append("land wide ").append(model.wide).append(" high ").append(model.high)
                .append(" doors ").append(model.far ? "far" : "near").append(" share ").append(model.share ? "yes" : "no");
        years();
        waters();
        stones();
        houses();
        skins();
        heirs();
        walls();
    }

    private void years() {
        model.year = random.nextInt(3) == 0 ? random.nextInt(901) : random.nextInt(12);
        model.births = random.nextInt(3) == 0 ? 100 * random.nextInt(2) : random.nextInt(101);
        model.fire = random.nextInt(3) == 0 ? 100 * random.nextInt(2) : random.nextInt(30);
        model.earns = random.nextInt(10);
        text.append(";years ").append(model.year).append(" births ").append(model.births)
                .append(" fire ").append(model.fire).append(" earns ").append(model.earns);
    }

    private void waters() {
        for (int i = random.nextInt(4); i > 0; i--) {
            int x = random.nextInt(model.wide);
            int y = random.nextInt(model.high);
            if (model.water.add(y * model.wide + x)) {
                text.append(";water ").append(x).append(',').append(y);
            }
        }
    }

    private void stones() {
        int count = 1 + random.nextInt(4);
        for (int i = 0; i < count; i++) {
            int[] s = {random.nextInt(3), 1 + random.nextInt(random.nextBoolean() ? 9 : 2), random.nextInt(10),
                random.nextInt(random.nextBoolean() ? 10 : 2), 1 + random.nextInt(random.nextBoolean() ? 99 : 10)};
            model.stones.add(s);
            text.append(";stone s").append(i == 0 ? "" : KINDS[i - 1]).append(' ').append(KINDS[s[0]]).append(" costs ").append(s[1])
                    .append(" warm ").append(s[2]).append(" rots ").append(s[3]).append(" strong ").append(s[4]);
        }
    }

    private String stoneName(int i) {
        return i == 0 ? "s" : "s" + KINDS[i - 1];
    }

    private void houses() {
        int count = 1 + random.nextInt(4);
        for (int i = 0; i < 40 && model.houses.size() < count; i++) {
            int x = random.nextInt(model.wide);
            int y = random.nextInt(model.high);
            if (model.isFree(x, y)) {
                addHouse(x, y);
            }
        }
        // A land needs a house wherever it can stand.
        for (int cell = 0; model.houses.isEmpty(); cell++) {
            if (model.isFree(cell % model.wide, cell / model.wide)) {
                addHouse(cell % model.wide, cell / model.wide);
            }
        }
    }

    private void addHouse(int x, int y) {
        Model.House h = new Model.House();
        h.x = x;
        h.y = y;
        h.stone = random.nextInt(model.stones.size());
        h.family = random.nextInt(4) == 0 ? 0 : random.nextInt(random.nextBoolean() ? 100 : 12);
        h.gold = random.nextInt(random.nextBoolean() ? 1000 : 100);
        text.append(";house ").append((char) ('a' + model.houses.size())).append(" at ").append(x).append(',').append(y)
                .append(" of ").append(stoneName(h.stone)).append(" family ").append(h.family).append(" gold ").append(h.gold);
        model.houses.add(h);
    }

    private void skins() {
        for (int i = random.nextInt(12); i > 0; i--) {
            int h = random.nextInt(model.houses.size());
            if (model.fits(h) && text.length() < 700) {
                int stone = random.nextInt(model.stones.size());
                int side = random.nextInt(4);
                int place = random.nextInt(2 * model.houses.get(h).skins.size() + 1);
                int lock = random.nextInt(random.nextBoolean() ? 100 : 6);
                model.add(h, stone, side, place, lock, -2);
                text.append(";skin ").append((char) ('a' + h)).append(' ').append(stoneName(stone)).append(' ')
                        .append(SIDES[side]).append(' ').append(place).append(" lock ").append(lock);
            }
        }
    }

    private void heirs() {
        for (int i = random.nextInt(7); i > 0; i--) {
            int h = random.nextInt(model.houses.size());
            int r = random.nextInt(model.houses.get(h).skins.size() + 1);
            text.append(";heir h").append((char) ('a' + model.heirs.size())).append(' ').append((char) ('a' + h)).append(' ').append(r);
            model.heirs.add(new int[] {h, r});
        }
    }

    private void walls() {
        for (int i = random.nextInt(7); i > 0; i--) {
            text.append(";wall w").append((char) ('a' + model.walls++));
        }
        for (int i = random.nextInt(5); i > 0 && model.walls > 1; i--) {
            int a = random.nextInt(model.walls);
            int b = random.nextInt(model.walls);
            boolean again = a == b;
            for (int[] pair : model.older) {
                again |= pair[0] == a && pair[1] == b || pair[0] == b && pair[1] == a;
            }
            if (!again && text.length() < 960) {
                model.older.add(new int[] {a, b});
                text.append(";older w").append((char) ('a' + a)).append(" w").append((char) ('a' + b));
            }
        }
        for (int i = random.nextInt(5); i > 0 && model.walls > 0; i--) {
            int w = random.nextInt(model.walls);
            int y = random.nextInt(model.year + 3);
            boolean coin = random.nextBoolean();
            if (text.length() < 960 && (coin ? model.coin : model.smell).putIfAbsent(w, y) == null) {
                text.append(coin ? ";coin w" : ";smell w").append((char) ('a' + w)).append(' ').append(y);
            }
        }
    }
}
