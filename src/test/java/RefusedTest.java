import java.util.function.Consumer;
import java.util.function.ToIntFunction;

/**
 * Each call that may be refused, by each number of its TROUBLE that can be met: the number, and that nothing
 * changes, neither what is now nor what UNDO and MARKS bring back. "Six are there" can't be met: see NOTES.md.
 */
public final class RefusedTest {
    private static final int LEAST = Integer.MIN_VALUE;
    private static final int MOST = Integer.MAX_VALUE;

    private static final String LAND = "land wide 8 high 7 doors near share no;years 100 births 50 fire 30 earns 2;water 7,6"
            + ";stone g hard costs 1 warm 3 rots 1 strong 30;stone w wood costs 5 warm 1 rots 0 strong 5"
            + ";house a at 2,2 of g family 5 gold 200;house b at 6,3 of w family 9 gold 930"
            + ";skin a g north 0 lock 4;skin a w south 1 lock 2;heir h a 1;heir i b 0;wall p;wall q;older p q";

    private static String text;
    private static Consumer<YearSkins> ahead;

    public static void main(String[] args) {
        text = LAND;
        ahead = RefusedTest::live;
        theLand();
        cellsAndHouses();
        skinsAndHeirs();
        newSkins();
        waysIn();
        whatWillBe();
        whoGrowsFirst();
        walls();
        years();
        build();
        fill();
        take();
        lock();
        move();
        give();
        seed();
        undoAndMarks();
        stones();
        oneAheadOfTheOther();
        questionsChangeNothing();
        Check.end();
    }

    /** Two ACTS, with a MARK between them, and a SEED of its own. */
    private static void live(YearSkins x) {
        x.lock(0, 1, 50);
        x.mark();
        x.give(0, 1, 10);
        x.seed(77);
    }

    private static YearSkins lived() {
        YearSkins x = Check.told(text);
        ahead.accept(x);
        return x;
    }

    private static void refused(String name, int trouble, ToIntFunction<YearSkins> call) {
        YearSkins x = lived();
        Check.refused(x, name, call.applyAsInt(x), trouble);
        Check.due(name + ": where", x.where(), -1);
        Check.due(name + ": fault", x.fault(), 0);
        Check.same(name, Seen.withPast(x), Seen.withPast(lived()));
    }

    private static void asked(String name, ToIntFunction<YearSkins> call) {
        YearSkins x = lived();
        x.fill(9, 9);
        int got = call.applyAsInt(x);
        Check.due(name + " answers", got != -1, true);
        Check.due(name + ": trouble", x.trouble(), 0);
        Check.same(name, Seen.withPast(x), Seen.withPast(lived()));
    }

    private static int told(boolean answer) {
        return answer ? 1 : -1;
    }

    private static void theLand() {
        for (int n : new int[] {-1, LEAST, 1, MOST}) {
            refused("land " + n + " of an empty tape", 2, x -> x.land(n));
        }
        YearSkins x = lived();
        YearSkins twin = lived();
        Check.feed(x, "land");
        Check.feed(twin, "land");
        Check.refused(x, "land 21 of 20", x.land(21), 2);
        Check.due("tape stays", x.size(12), 20);
        Check.same("land of too many", Seen.withPast(x), Seen.withPast(twin));
        // By 4 the LAND stays, with all that can be undone, and its MARKS; the tape is empty.
        for (String spoilt : new String[] {"", "land wide 5 high 5 doors far share yes",
            LAND.replace("wide 8", "wide 12") + ";coin p 1000", LAND.replace("gold 930", "gold 1") + ";older q p"}) {
            YearSkins y = lived();
            Check.refused(y, "land of [" + spoilt + "]", Check.tell(y, spoilt), 4);
            Check.same("land of a fault", Seen.withPast(y), Seen.withPast(lived()));
        }
    }

    private static void cellsAndHouses() {
        for (int out : new int[] {LEAST, -1, 8, MOST}) {
            refused("whose x " + out, 1, x -> x.whose(out, 0));
        }
        for (int out : new int[] {LEAST, -1, 7, MOST}) {
            refused("whose y " + out, 1, x -> x.whose(0, out));
            refused("house what " + out, 1, x -> x.house(0, out));
        }
        for (int out : new int[] {LEAST, -1, 2, 3, 4, MOST}) {
            refused("house " + out, 1, x -> x.house(out, 0));
        }
    }

    private static void skinsAndHeirs() {
        for (int out : new int[] {LEAST, -1, 2, 4, MOST}) {
            refused("skin of house " + out, 1, x -> x.skin(out, 1, 0));
            refused("warm of house " + out, 1, x -> x.warm(out, 0));
            refused("light of house " + out, 1, x -> x.light(out, 0));
            refused("heir " + out, 1, x -> x.heir(out, 0));
        }
        for (int out : new int[] {LEAST, -1, 0, 3, 6, 7, MOST}) {
            refused("skin " + out, 1, x -> x.skin(0, out, 0));
            refused("skin of a core alone " + out, 1, x -> x.skin(1, out == 3 ? 1 : out, 0));
        }
        for (int out : new int[] {LEAST, -1, 8, MOST}) {
            refused("skin what " + out, 1, x -> x.skin(0, 1, out));
        }
        for (int out : new int[] {LEAST, -1, 3, MOST}) {
            refused("warm " + out, 1, x -> x.warm(0, out));
            refused("light " + out, 1, x -> x.light(0, out));
            refused("heir what " + out, 1, x -> x.heir(0, out));
            refused("warm about a core alone " + out, 1, x -> x.warm(1, out == 3 ? 1 : out));
            refused("light about a core alone " + out, 1, x -> x.light(1, out == 3 ? 1 : out));
        }
    }

    private static void newSkins() {
        for (int out : new int[] {LEAST, -1, 2, 4, MOST}) {
            refused("fits " + out, 1, x -> x.fits(out));
            refused("door " + out, 1, x -> x.door(out));
            refused("costs of house " + out, 1, x -> x.costs(out, 0));
            refused("costs of stone " + out, 1, x -> x.costs(0, out));
            refused("room " + out, 1, x -> x.room(out));
            refused("takes " + out, 1, x -> x.takes(out));
            refused("worth " + out, 1, x -> x.worth(out));
        }
    }

    private static void waysIn() {
        for (int out : new int[] {LEAST, -1, 2, 4, MOST}) {
            refused("way of house " + out, 1, x -> x.way(out, 0));
            refused("through of house " + out, 1, x -> x.through(out, 0));
            refused("breaks of house " + out, 1, x -> x.breaks(out, 0));
            refused("round of house " + out, 1, x -> x.round(out, 2));
        }
        for (int out : new int[] {LEAST, -1, 3, MOST}) {
            refused("way " + out, 1, x -> x.way(0, out));
            refused("through " + out, 1, x -> x.through(0, out));
            refused("breaks " + out, 1, x -> x.breaks(0, out));
        }
        for (int out : new int[] {LEAST, -1, 0, 1, 3, MOST}) {
            refused("round " + out, 1, x -> x.round(0, out));
        }
        refused("way about a core alone", 1, x -> x.way(1, 1));
        refused("through about a core alone", 1, x -> x.through(1, 1));
        refused("breaks about a core alone", 1, x -> x.breaks(1, 1));
        refused("round about a core alone", 1, x -> x.round(1, 2));
    }

    private static void whatWillBe() {
        for (int out : new int[] {LEAST, -1, 2, 4, MOST}) {
            refused("in of house " + out, 1, x -> x.in(out, 0, 0));
            refused("meet of house " + out, 1, x -> x.meet(out, 1, 0));
            refused("meet with house " + out, 1, x -> x.meet(0, out, 0));
            refused("falls of house " + out, 1, x -> x.falls(out, 1, 0));
        }
        for (int out : new int[] {LEAST, -1, 5, MOST}) {
            refused("in what " + out, 1, x -> x.in(0, 0, out));
        }
        for (int out : new int[] {LEAST, -1, 61, MOST}) {
            refused("in " + out, 2, x -> x.in(0, out, 0));
            refused("skinsIn " + out, 2, x -> x.skinsIn(out));
            refused("meet in " + out, 2, x -> x.meet(0, 1, out));
            refused("falls in " + out, 2, x -> x.falls(0, 1, out));
            refused("heads in " + out, 2, x -> x.heads(0, out));
        }
        refused("meet of a house with itself", 1, x -> x.meet(0, 0, 0));
        for (int out : new int[] {LEAST, -1, 0, 3, MOST}) {
            refused("falls of skin " + out, 1, x -> x.falls(0, out, 0));
        }
        // House b will have a SKIN, but has none NOW.
        refused("falls of a skin to be", 1, x -> x.falls(1, 1, 60));
        for (int out : new int[] {LEAST, -1, 65537, MOST}) {
            refused("heads by seed " + out, 2, x -> x.heads(out, 0));
        }
    }

    private static void whoGrowsFirst() {
        for (int out : new int[] {LEAST, -1, 31, MOST}) {
            refused("first " + out, 2, x -> x.first(out));
            refused("firstAt in " + out, 2, x -> x.firstAt(out, 0));
        }
        for (int out : new int[] {LEAST, -1, 2, 4, MOST}) {
            refused("firstAt " + out, 1, x -> x.firstAt(0, out));
        }
    }

    private static void walls() {
        for (int out : new int[] {LEAST, -1, 2, 6, MOST}) {
            refused("order at " + out, 1, x -> x.order(0, out));
            refused("soonest " + out, 1, x -> x.soonest(out));
            refused("latest " + out, 1, x -> x.latest(out));
            refused("surely of " + out, 1, x -> x.surely(out, 0));
            refused("surely than " + out, 1, x -> x.surely(0, out));
        }
        for (int out : new int[] {LEAST, -1, 1, 719, 720, MOST}) {
            refused("order " + out, 1, x -> x.order(out, 0));
        }
        refused("surely of a wall and itself", 1, x -> x.surely(1, 1));
    }

    private static void years() {
        for (int out : new int[] {LEAST, -1, 0, 21, MOST}) {
            refused("years " + out, 2, x -> x.years(out));
        }
        text = LAND.replace("years 100", "years 900");
        ahead = x -> {
            for (int i = 0; i < 4; i++) {
                x.years(20);
            }
        };
        refused("years beyond 999", 3, x -> x.years(20));
        ahead = x -> {
            for (int i = 0; i < 11; i++) {
                x.years(9);
            }
        };
        refused("a year beyond 999", 3, x -> x.years(1));
        text = LAND;
        ahead = RefusedTest::live;
    }

    private static void build() {
        for (int out : new int[] {LEAST, -1, 2, 4, MOST}) {
            refused("build for house " + out, 1, x -> x.build(out, 0, 0, 0, 0));
            refused("build of stone " + out, 1, x -> x.build(1, out, 0, 0, 0));
        }
        for (int out : new int[] {LEAST, -1, 4, MOST}) {
            refused("build with side " + out, 1, x -> x.build(1, 0, out, 0, 0));
        }
        for (int out : new int[] {LEAST, -1, 1, MOST}) {
            refused("build with place " + out, 2, x -> x.build(1, 0, 0, out, 0));
        }
        for (int out : new int[] {LEAST, -1, 100, MOST}) {
            refused("build with lock " + out, 2, x -> x.build(1, 0, 0, 0, out));
        }
        // Of SKIN 3 the places are 0 .. 4.
        refused("build with place 5 of skin 3", 2, x -> x.build(0, 0, 0, 5, 0));
        refused("build what doesn't fit", 5, x -> x.build(0, 0, 0, 4, 0));
        refused("build a door to the end of the land", 5, x -> x.build(1, 0, 1, 0, 0));
        refused("build a door to another house", 5, x -> x.build(1, 0, 3, 0, 0));
        text = LAND.replace("water 7,6", "water 6,5");
        refused("build a door to water", 5, x -> x.build(1, 0, 2, 0, 0));
        text = LAND.replace("gold 930", "gold 29");
        refused("build for too little gold", 6, x -> x.build(1, 1, 0, 0, 0));
        text = LAND;
    }

    private static void fill() {
        for (int out : new int[] {LEAST, -1, 2, 4, MOST}) {
            refused("fill of house " + out, 1, x -> told(x.fill(out, 1)));
        }
        for (int out : new int[] {LEAST, -1, 0, 3, MOST}) {
            refused("fill of skin " + out, 1, x -> told(x.fill(0, out)));
        }
        refused("fill where an heir lives", 5, x -> told(x.fill(0, 1)));
        ahead = x -> x.fill(0, 2);
        refused("fill what is filled", 5, x -> told(x.fill(0, 2)));
        ahead = x -> {
            x.move(0, 0);
            x.take(0);
        };
        refused("fill what is collapsed", 5, x -> told(x.fill(0, 1)));
        ahead = RefusedTest::live;
    }

    private static void take() {
        for (int out : new int[] {LEAST, -1, 2, 4, MOST}) {
            refused("take of house " + out, 1, x -> x.take(out));
        }
        refused("take where an heir lives", 5, x -> x.take(0));
        refused("take of a core alone", 6, x -> x.take(1));
        ahead = x -> {
            x.move(0, 0);
            x.take(0);
            x.take(0);
        };
        refused("take where none stands", 6, x -> x.take(0));
        // The heir of the inmost that stands counts, not one of a SKIN that is COLLAPSED within.
        ahead = x -> {
            x.move(0, 2);
            x.take(0);
        };
        refused("take the next where an heir lives", 5, x -> x.take(0));
        ahead = RefusedTest::live;
    }

    private static void lock() {
        for (int out : new int[] {LEAST, -1, 2, 4, MOST}) {
            refused("lock of house " + out, 1, x -> told(x.lock(out, 1, 9)));
        }
        for (int out : new int[] {LEAST, -1, 0, 3, MOST}) {
            refused("lock of skin " + out, 1, x -> told(x.lock(0, out, 9)));
        }
        for (int out : new int[] {LEAST, -1, 100, MOST}) {
            refused("lock " + out, 2, x -> told(x.lock(0, 1, out)));
        }
        refused("lock that it is", 5, x -> told(x.lock(0, 1, 50)));
    }

    private static void move() {
        for (int out : new int[] {LEAST, -1, 2, 6, MOST}) {
            refused("move of heir " + out, 1, x -> told(x.move(out, 0)));
        }
        for (int out : new int[] {LEAST, -1, 3, MOST}) {
            refused("move to skin " + out, 1, x -> told(x.move(0, out)));
        }
        refused("move out of a core alone", 1, x -> told(x.move(1, 1)));
        refused("move to where he is", 5, x -> told(x.move(0, 1)));
        refused("move to the core where he is", 5, x -> told(x.move(1, 0)));
        ahead = x -> x.fill(0, 2);
        refused("move into what is filled", 5, x -> told(x.move(0, 2)));
        ahead = x -> {
            x.move(0, 2);
            x.take(0);
        };
        refused("move into what is collapsed", 5, x -> told(x.move(0, 1)));
        ahead = RefusedTest::live;
    }

    private static void give() {
        for (int out : new int[] {LEAST, -1, 2, 4, MOST}) {
            refused("give from house " + out, 1, x -> told(x.give(out, 1, 1)));
            refused("give to house " + out, 1, x -> told(x.give(0, out, 1)));
        }
        refused("give to oneself", 1, x -> told(x.give(1, 1, 1)));
        // House a has 190, b 940.
        for (int out : new int[] {LEAST, -1, 0, 60, 191, MOST}) {
            refused("give " + out, 2, x -> told(x.give(0, 1, out)));
        }
        for (int out : new int[] {810, 940, 941, 999, 1000}) {
            refused("give back " + out, 2, x -> told(x.give(1, 0, out)));
        }
    }

    private static void seed() {
        for (int out : new int[] {LEAST, -1, 65537, MOST}) {
            refused("seed " + out, 2, x -> told(x.seed(out)));
        }
    }

    private static void undoAndMarks() {
        for (int out : new int[] {LEAST, -1, 1, 3, MOST}) {
            refused("back to " + out, 1, x -> told(x.back(out)));
        }
        ahead = x -> {
            x.mark();
            x.years(1);
            x.mark();
            x.years(1);
            x.mark();
            x.years(1);
        };
        refused("a fourth mark", 3, x -> x.mark());
        refused("back to a fourth mark", 1, x -> told(x.back(3)));
        ahead = x -> x.seed(5);
        refused("undo of nothing", 6, x -> told(x.undo()));
        refused("back without marks", 1, x -> told(x.back(0)));
        ahead = x -> {
            x.mark();
            x.years(3);
            x.back(0);
        };
        refused("undo of what was ahead of going back", 6, x -> told(x.undo()));
        ahead = RefusedTest::live;
    }

    private static void stones() {
        for (int out : new int[] {LEAST, -1, 2, 4, MOST}) {
            refused("stone " + out, 1, x -> x.stone(out, 0));
        }
        for (int out : new int[] {LEAST, -1, 5, MOST}) {
            refused("stone what " + out, 1, x -> x.stone(0, out));
        }
    }

    /** Where several numbers would do, the first of the promise's row is told. */
    private static void oneAheadOfTheOther() {
        refused("in: no house, a number", 1, x -> x.in(2, 61, 0));
        refused("in: no such what, a number", 1, x -> x.in(0, 61, 5));
        refused("meet: like houses, a number", 1, x -> x.meet(1, 1, 61));
        refused("falls: no skin, a number", 1, x -> x.falls(0, 3, 61));
        refused("firstAt: no i, a number", 1, x -> x.firstAt(31, 2));
        refused("build: no side, a number", 1, x -> x.build(1, 0, 4, 1, 100));
        refused("build: a number, it doesn't fit", 2, x -> x.build(0, 0, 0, 0, 100));
        refused("build: a number, no free land", 2, x -> x.build(1, 0, 1, 1, 0));
        refused("lock: no skin, a number", 1, x -> told(x.lock(0, 3, 100)));
        refused("give: like houses, a number", 1, x -> told(x.give(0, 0, 0)));
        text = LAND.replace("gold 930", "gold 0");
        refused("build: no free land, too little gold", 5, x -> x.build(1, 1, 1, 0, 0));
        refused("build: a number, too little gold", 2, x -> x.build(1, 1, 0, 1, 0));
        text = LAND.replace("years 100", "years 900");
        ahead = x -> {
            for (int i = 0; i < 9; i++) {
                x.years(11);
            }
        };
        refused("years: a number, beyond 999", 2, x -> x.years(21));
        refused("years: beyond 999", 3, x -> x.years(20));
        text = LAND;
        ahead = RefusedTest::live;
    }

    private static void questionsChangeNothing() {
        asked("whose", x -> x.whose(7, 6));
        asked("shared", x -> x.shared());
        asked("free", x -> x.free());
        asked("house", x -> x.house(1, 6));
        asked("skin", x -> x.skin(0, 2, 6));
        asked("warm", x -> x.warm(0, 2));
        asked("light", x -> x.light(0, 2));
        asked("heir", x -> x.heir(1, 2));
        asked("fits", x -> x.fits(1));
        asked("door", x -> x.door(1));
        asked("costs", x -> x.costs(1, 1));
        asked("way", x -> x.way(0, 0));
        asked("through", x -> x.through(0, 0));
        asked("breaks", x -> x.breaks(0, 0));
        asked("round", x -> x.round(0, 2));
        asked("in", x -> x.in(1, 60, 4));
        asked("skinsIn", x -> x.skinsIn(60));
        asked("meet", x -> x.meet(1, 0, 60));
        asked("falls", x -> x.falls(0, 2, 60));
        asked("room", x -> x.room(1));
        asked("first", x -> x.first(30));
        asked("firstAt", x -> x.firstAt(30, 1));
        asked("heads", x -> x.heads(65536, 60));
        asked("takes", x -> x.takes(0));
        asked("worth", x -> x.worth(0));
        asked("orders", x -> x.orders());
        asked("order", x -> x.order(0, 1));
        asked("soonest", x -> x.soonest(1));
        asked("latest", x -> x.latest(1));
        asked("surely", x -> x.surely(0, 1));
        asked("stone", x -> x.stone(1, 4));
    }
}
