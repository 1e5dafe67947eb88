/** Promises 36 to 46: ACTS, SEED, UNDO, MARKS. */
public final class ActsTest {
    private static final String LAND = "land wide 9 high 9 doors near share no;years 100 births 50 fire 30 earns 2"
            + ";stone g hard costs 1 warm 3 rots 1 strong 3;stone w wood costs 5 warm 1 rots 0 strong 5"
            + ";house a at 3,3 of g family 5 gold 200;house b at 7,7 of w family 9 gold 930"
            + ";skin a g north 0 lock 4;skin a w north 1 lock 2;heir h a 1;heir i b 0";

    public static void main(String[] args) {
        years();
        build();
        fill();
        lock();
        move();
        give();
        seed();
        undo();
        marks();
        Check.end();
    }

    private static void years() {
        YearSkins x = Check.told(LAND);
        Check.refused(x, "0", x.years(0), 2);
        Check.refused(x, "21", x.years(21), 2);
        Check.due("nothing to undo", x.size(10), 0);
        int skins = x.skinsIn(20);
        int gold = x.in(0, 20, 2);
        int family = x.in(1, 20, 1);
        Check.fine(x, "20", x.years(20), skins);
        Check.due("as foreseen", x.house(0, 3), gold);
        Check.due("as foreseen", x.house(1, 2), family);
        Check.due("year", x.size(8), 120);
        YearSkins y = Check.told(LAND.replace("years 100", "years 900"));
        for (int i = 0; i < 4; i++) {
            y.years(20);
        }
        Check.due("year 980", y.size(8), 980);
        Check.refused(y, "beyond 999", y.years(20), 3);
        Check.fine(y, "to 999", y.years(19), y.skinsIn(19));
        Check.refused(y, "beyond 999", y.years(1), 3);
        Check.refused(y, "2 ahead of 3", y.years(0), 2);
        Check.due("year 999", y.size(8), 999);
        Check.fine(y, "what will be has no such bound", y.skinsIn(60), y.skinsIn(60));
    }

    private static void build() {
        YearSkins x = Check.told(LAND);
        Check.refused(x, "house", x.build(2, 0, 0, 0, 0), 1);
        Check.refused(x, "stone", x.build(1, 2, 0, 0, 0), 1);
        Check.refused(x, "side", x.build(1, 0, 4, 0, 0), 1);
        Check.refused(x, "side", x.build(1, 0, -1, 9, 0), 1);
        Check.refused(x, "place", x.build(1, 0, 0, 1, 0), 2);
        Check.refused(x, "place", x.build(1, 0, 0, -1, 0), 2);
        Check.refused(x, "lock", x.build(1, 0, 0, 0, 100), 2);
        Check.refused(x, "lock", x.build(1, 0, 0, 0, -1), 2);
        Check.refused(x, "it doesn't fit, lock first", x.build(0, 0, 0, 0, 100), 2);
        Check.refused(x, "it doesn't fit", x.build(0, 0, 0, 4, 99), 5);
        Check.refused(x, "beyond the land", x.build(1, 0, 1, 0, 0), 5);
        Check.due("nothing to undo", x.size(10), 0);
        x.give(1, 0, 799);
        Check.due("gold", x.house(1, 3), 131);
        Check.fine(x, "build", x.build(1, 1, 3, 0, 99), 40);
        Check.due("gold", x.house(1, 3), 91);
        int[] due = {1, 3, 0, 99, 0, 0, 0, 100};
        for (int what = 0; what < 8; what++) {
            Check.fine(x, "skin " + what, x.skin(1, 1, what), due[what]);
        }
        YearSkins poor = Check.told(LAND.replace("gold 930", "gold 39"));
        Check.refused(poor, "too little gold", poor.build(1, 1, 0, 0, 0), 6);
        Check.refused(poor, "5 ahead of 6", poor.build(1, 1, 2, 0, 0), 5);
        Check.fine(poor, "enough", poor.build(1, 0, 0, 0, 0), 8);
        YearSkins just = Check.told(LAND.replace("gold 930", "gold 40"));
        Check.fine(just, "just enough", just.build(1, 1, 0, 0, 0), 40);
        Check.due("gold", just.house(1, 3), 0);
    }

    private static void fill() {
        YearSkins x = Check.told(LAND);
        Check.refused(x, "house", x.fill(2, 1), 1);
        Check.refused(x, "core", x.fill(0, 0), 1);
        Check.refused(x, "skin", x.fill(0, 3), 1);
        Check.refused(x, "an heir lives there", x.fill(0, 1), 5);
        Check.fine(x, "fill", x.fill(0, 2));
        Check.due("filled", x.skin(0, 2, 6), 1);
        Check.refused(x, "filled", x.fill(0, 2), 5);
        Check.refused(x, "move into the filled", x.move(0, 2), 5);
        x.move(0, 0);
        x.take(0);
        Check.refused(x, "collapsed", x.fill(0, 1), 5);
        Check.refused(x, "move into the collapsed", x.move(0, 1), 5);
    }

    private static void lock() {
        YearSkins x = Check.told(LAND);
        Check.refused(x, "house", x.lock(2, 1, 0), 1);
        Check.refused(x, "core", x.lock(0, 0, 0), 1);
        Check.refused(x, "skin", x.lock(0, 3, 100), 1);
        Check.refused(x, "100", x.lock(0, 1, 100), 2);
        Check.refused(x, "-1", x.lock(0, 1, -1), 2);
        Check.refused(x, "it is that", x.lock(0, 1, 4), 5);
        Check.fine(x, "lock", x.lock(0, 1, 99));
        Check.due("lock", x.skin(0, 1, 3), 99);
        Check.fine(x, "lock", x.lock(0, 1, 0));
    }

    private static void move() {
        YearSkins x = Check.told(LAND);
        Check.refused(x, "heir", x.move(2, 0), 1);
        Check.refused(x, "heir", x.move(-1, 0), 1);
        Check.refused(x, "skin", x.move(0, 3), 1);
        Check.refused(x, "skin", x.move(0, -1), 1);
        Check.refused(x, "skin of his own house", x.move(1, 1), 1);
        Check.refused(x, "he is there", x.move(0, 1), 5);
        Check.refused(x, "he is there", x.move(1, 0), 5);
        Check.fine(x, "move", x.move(0, 2));
        Check.due("room", x.heir(0, 1), 2);
        Check.fine(x, "move to the core", x.move(0, 0));
        Check.due("room", x.heir(0, 1), 0);
    }

    private static void give() {
        YearSkins x = Check.told(LAND);
        Check.refused(x, "unlike", x.give(0, 0, 1), 1);
        Check.refused(x, "house", x.give(2, 0, 1), 1);
        Check.refused(x, "house", x.give(0, -1, 1), 1);
        Check.refused(x, "0", x.give(0, 1, 0), 2);
        Check.refused(x, "-1", x.give(0, 1, -1), 2);
        Check.refused(x, "more than there is", x.give(0, 1, 201), 2);
        Check.refused(x, "much more", x.give(0, 1, Integer.MAX_VALUE), 2);
        Check.refused(x, "more than 999 then", x.give(0, 1, 70), 2);
        Check.fine(x, "give", x.give(0, 1, 69));
        Check.due("gold", x.house(0, 3), 131);
        Check.due("gold", x.house(1, 3), 999);
        Check.fine(x, "give all", x.give(1, 0, 868));
        Check.due("gold", x.house(0, 3), 999);
        YearSkins y = Check.told(LAND);
        Check.refused(y, "800", y.give(1, 0, 800), 2);
        Check.fine(y, "799", y.give(1, 0, 799));
        Check.fine(y, "1", y.give(0, 1, 1));
        Check.due("gold", y.house(0, 3), 998);
    }

    private static void seed() {
        YearSkins x = Check.told(LAND);
        Check.refused(x, "-1", x.seed(-1), 2);
        Check.refused(x, "65537", x.seed(65537), 2);
        Check.fine(x, "0", x.seed(0));
        Check.fine(x, "65536", x.seed(65536));
        Check.due("seed", x.size(9), 65536);
        Check.due("no act", x.size(10), 0);
        x.years(1);
        x.seed(3);
        Check.fine(x, "undo", x.undo());
        Check.due("seed as ahead of the act", x.size(9), 65536);
    }

    private static void undo() {
        YearSkins x = Check.told(LAND);
        Check.refused(x, "nothing", x.undo(), 6);
        for (int i = 0; i < 12; i++) {
            x.lock(0, 1, 50 + i);
        }
        Check.due("ten are kept", x.size(10), 10);
        for (int i = 10; i >= 1; i--) {
            Check.fine(x, "undo", x.undo());
            Check.due("lock", x.skin(0, 1, 3), 50 + i);
            Check.due("acts", x.size(10), i - 1);
        }
        Check.refused(x, "no more", x.undo(), 6);
        Check.due("lock", x.skin(0, 1, 3), 51);
        x.move(0, 0);
        x.fill(0, 1);
        x.take(0);
        x.give(0, 1, 5);
        x.years(20);
        x.build(1, 0, 0, 0, 5);
        while (x.size(10) > 0) {
            x.undo();
        }
        Check.due("year", x.size(8), 100);
        Check.due("seed", x.size(9), 0);
        Check.due("gold", x.house(0, 3), 200);
        Check.due("gold", x.house(1, 3), 930);
        Check.due("skins", x.house(1, 1), 0);
        Check.due("heir", x.heir(0, 1), 1);
        Check.due("rot", x.skin(0, 1, 4), 0);
        Check.due("collapsed", x.skin(0, 1, 5), 0);
        Check.due("filled", x.skin(0, 1, 6), 0);
    }

    private static void marks() {
        YearSkins x = Check.told(LAND);
        Check.refused(x, "no mark", x.back(0), 1);
        Check.fine(x, "mark", x.mark(), 0);
        Check.due("no act", x.size(10), 0);
        x.seed(9);
        x.years(5);
        Check.fine(x, "mark", x.mark(), 1);
        x.years(5);
        Check.fine(x, "mark", x.mark(), 2);
        Check.refused(x, "no room", x.mark(), 3);
        Check.due("marks", x.size(11), 3);
        int gold = x.house(0, 3);
        Check.refused(x, "no such", x.back(3), 1);
        Check.refused(x, "no such", x.back(-1), 1);
        Check.due("acts", x.size(10), 2);
        Check.fine(x, "back", x.back(0));
        Check.due("acts", x.size(10), 0);
        Check.refused(x, "nothing can be undone", x.undo(), 6);
        Check.due("year", x.size(8), 100);
        Check.due("seed", x.size(9), 0);
        Check.due("marks stay", x.size(11), 3);
        x.lock(0, 1, 77);
        Check.fine(x, "forth", x.back(2));
        Check.due("year", x.size(8), 110);
        Check.due("gold", x.house(0, 3), gold);
        Check.due("lock", x.skin(0, 1, 3), 4);
        Check.refused(x, "nothing can be undone", x.undo(), 6);
        x.years(1);
        Check.fine(x, "undo goes on", x.undo());
        Check.due("year", x.size(8), 110);
    }
}
