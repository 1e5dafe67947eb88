/** Promises 37 to 46: ACTS, SEED, UNDO and MARKS, at the bounds that the document names. Refusals are in RefusedTest. */
public final class ActBoundsTest {
    private static final String STONES = ";stone g hard costs 1 warm 3 rots 1 strong 9;stone w wood costs 5 warm 1 rots 0 strong 5";

    public static void main(String[] args) {
        buildEachDoor();
        buildForAllItsGold();
        buildAsItCosts();
        fillAnySkin();
        filledByHeirsElsewhere();
        takeUpTo999();
        takeWhatIsFilled();
        takeFromWithin();
        lockFrom0To99();
        lockWhateverStands();
        moveAnywhere();
        moveOutOfTheCollapsed();
        giveOneOrAll();
        giveUpTo999();
        seedFrom0To65536();
        undoEachAct();
        undoTen();
        undoAgainAndAgain();
        undoTheSeed();
        markThree();
        marksKeepAll();
        marksStay();
        aNewLand();
        nothingOfOtherLands();
        fourHouses();
        sixHeirs();
        Check.end();
    }

    private static YearSkins told(String rest) {
        return Check.told("land wide 12 high 12 doors near share no;years 100 births 0 fire 0 earns 0" + STONES + rest);
    }

    private static String house(String name, int x, int y, int gold) {
        return ";house " + name + " at " + x + "," + y + " of g family 0 gold " + gold;
    }

    private static String skins(String house, int count) {
        StringBuilder text = new StringBuilder();
        for (int r = 1; r <= count; r++) {
            text.append(";skin ").append(house).append(" g north 0 lock 5");
        }
        return text.toString();
    }

    /** Of SKIN r the places are 0 .. 2 r less 2 on each SIDE, the locks 0 .. 99. */
    private static void buildEachDoor() {
        for (int r = 1; r <= 4; r++) {
            YearSkins x = told(house("a", 6, 6, 999) + skins("a", r - 1));
            for (int side = 0; side < 4; side++) {
                int lock = side % 2 == 0 ? 0 : 99;
                for (int place : new int[] {0, 2 * r - 2}) {
                    Check.fine(x, "build " + side + " " + place, x.build(0, 0, side, place, lock), 8 * r);
                    int[] due = {0, side, place, lock, 0, 0, 0, 100};
                    for (int what = 0; what < 8; what++) {
                        Check.due("skin " + what, x.skin(0, r, what), due[what]);
                    }
                    x.undo();
                }
                Check.refused(x, "beyond the side", x.build(0, 0, side, 2 * r - 1, lock), 2);
                Check.refused(x, "ahead of the side", x.build(0, 0, side, -1, lock), 2);
                Check.refused(x, "lock 100", x.build(0, 0, side, 0, 100), 2);
                Check.refused(x, "lock -1", x.build(0, 0, side, 0, -1), 2);
            }
            Check.refused(x, "side 4", x.build(0, 0, 4, 0, 0), 1);
            Check.refused(x, "side -1", x.build(0, 0, -1, 0, 0), 1);
        }
    }

    private static void buildForAllItsGold() {
        for (int r = 1; r <= 4; r++) {
            for (int stone = 0; stone < 2; stone++) {
                int price = (stone == 0 ? 8 : 40) * r;
                YearSkins x = told(house("a", 6, 6, price - 1) + skins("a", r - 1));
                Check.refused(x, "one too little", x.build(0, stone, 0, 0, 0), 6);
                Check.due("skins", x.house(0, 1), r - 1);
                YearSkins y = told(house("a", 6, 6, price) + skins("a", r - 1));
                Check.fine(y, "just enough", y.build(0, stone, 0, 0, 0), price);
                Check.due("gold", y.house(0, 3), 0);
                Check.due("skins", y.house(0, 1), r);
            }
        }
    }

    private static void buildAsItCosts() {
        YearSkins x = told(house("a", 6, 6, 999) + house("b", 0, 0, 999));
        int gold = 999;
        for (int r = 1; r <= 5; r++) {
            int price = x.costs(0, 1);
            // North of SKIN 5 the row 0 is still free land.
            Check.fine(x, "build " + r, x.build(0, 1, 0, r - 1, r), price);
            gold -= price;
            Check.due("gold", x.house(0, 3), gold);
            Check.due("the other's gold", x.house(1, 3), 999);
        }
        Check.refused(x, "a sixth doesn't fit", x.build(0, 0, 0, 0, 0), 5);
        Check.due("skins", x.house(0, 1), 5);
    }

    private static void fillAnySkin() {
        for (int r = 1; r <= 3; r++) {
            YearSkins x = told(house("a", 6, 6, 0) + skins("a", 3));
            Check.refused(x, "the core", x.fill(0, 0), 1);
            Check.refused(x, "beyond", x.fill(0, 4), 1);
            Check.fine(x, "fill " + r, x.fill(0, r));
            for (int other = 1; other <= 3; other++) {
                Check.due("filled", x.skin(0, other, 6), other == r ? 1 : 0);
                Check.due("stands", x.skin(0, other, 5), 0);
            }
            Check.refused(x, "again", x.fill(0, r), 5);
            Check.due("filled still", x.skin(0, r, 6), 1);
        }
    }

    private static void filledByHeirsElsewhere() {
        YearSkins x = told(house("a", 3, 3, 0) + house("b", 8, 8, 0) + skins("a", 2) + skins("b", 2) + ";heir h a 1;heir i b 2");
        Check.refused(x, "his own", x.fill(0, 1), 5);
        Check.fine(x, "about him", x.fill(0, 2));
        Check.fine(x, "of another house", x.fill(1, 1));
        Check.refused(x, "his own", x.fill(1, 2), 5);
        x.move(1, 0);
        Check.fine(x, "he has left", x.fill(1, 2));
    }

    private static void takeUpTo999() {
        int[] before = {0, 994, 995, 996, 999};
        int[] behind = {4, 998, 999, 999, 999};
        for (int i = 0; i < before.length; i++) {
            YearSkins x = told(house("a", 6, 6, before[i]) + skins("a", 1));
            Check.fine(x, "take", x.take(0), 4);
            Check.due("gold", x.house(0, 3), behind[i]);
            Check.due("collapsed", x.skin(0, 1, 5), 1);
            Check.due("it stays in its place", x.house(0, 1), 1);
            x.undo();
            Check.due("gold", x.house(0, 3), before[i]);
        }
    }

    private static void takeWhatIsFilled() {
        YearSkins x = told(house("a", 6, 6, 0) + skins("a", 2));
        x.fill(0, 1);
        Check.fine(x, "take", x.take(0), 4);
        Check.due("collapsed", x.skin(0, 1, 5), 1);
        Check.due("filled no more", x.skin(0, 1, 6), 0);
        int[] kept = {0, 0, 0, 5, 0};
        for (int what = 0; what < kept.length; what++) {
            Check.due("all else is as told", x.skin(0, 1, what), kept[what]);
        }
        Check.due("told", x.skin(0, 1, 7), -2);
        Check.due("whose", x.whose(5, 5), 1);
    }

    private static void takeFromWithin() {
        YearSkins x = told(house("a", 6, 6, 0) + skins("a", 3) + ";heir h a 3");
        Check.fine(x, "1", x.take(0), 4);
        Check.fine(x, "2", x.take(0), 8);
        Check.refused(x, "3, an heir lives there", x.take(0), 5);
        x.move(0, 0);
        Check.fine(x, "3", x.take(0), 12);
        Check.refused(x, "none stands", x.take(0), 6);
        Check.due("gold", x.house(0, 3), 24);
        Check.due("skins", x.house(0, 1), 3);
    }

    private static void lockFrom0To99() {
        YearSkins x = told(house("a", 6, 6, 0) + skins("a", 2));
        for (int v : new int[] {0, 99, 1, 98, 0}) {
            Check.fine(x, "lock " + v, x.lock(0, 2, v));
            Check.due("lock", x.skin(0, 2, 3), v);
            Check.refused(x, "it is that", x.lock(0, 2, v), 5);
            Check.due("another door's", x.skin(0, 1, 3), 5);
        }
        Check.refused(x, "100", x.lock(0, 2, 100), 2);
        Check.refused(x, "-1", x.lock(0, 2, -1), 2);
        Check.fine(x, "the first", x.lock(0, 1, 99));
        Check.refused(x, "the core", x.lock(0, 0, 9), 1);
        Check.refused(x, "beyond", x.lock(0, 3, 9), 1);
    }

    private static void lockWhateverStands() {
        YearSkins x = told(house("a", 6, 6, 0) + skins("a", 2));
        x.fill(0, 2);
        Check.fine(x, "filled", x.lock(0, 2, 9));
        x.take(0);
        Check.fine(x, "collapsed", x.lock(0, 1, 9));
        Check.due("lock", x.skin(0, 1, 3), 9);
    }

    private static void moveAnywhere() {
        YearSkins x = told(house("a", 3, 3, 0) + house("b", 8, 8, 0) + skins("a", 3) + skins("b", 1) + ";heir h a 0;heir i a 3;heir j b 0");
        for (int r : new int[] {3, 2, 1, 0}) {
            Check.fine(x, "move to " + r, x.move(0, r));
            Check.due("room", x.heir(0, 1), r);
            Check.due("house", x.heir(0, 0), 0);
            Check.refused(x, "he is there", x.move(0, r), 5);
        }
        Check.due("another heir's", x.heir(1, 1), 3);
        Check.refused(x, "beyond", x.move(0, 4), 1);
        Check.refused(x, "ahead of the core", x.move(0, -1), 1);
        Check.fine(x, "the third", x.move(2, 1));
        Check.refused(x, "beyond his own house", x.move(2, 2), 1);
        Check.refused(x, "no such heir", x.move(3, 0), 1);
    }

    private static void moveOutOfTheCollapsed() {
        YearSkins x = Check.told("land wide 12 high 12 doors near share no;years 100 births 0 fire 0 earns 0" + STONES
                + ";house a at 6,6 of g family 1 gold 0" + skins("a", 1) + ";heir h a 1");
        x.years(9);
        Check.due("collapsed", x.skin(0, 1, 5), 1);
        Check.due("he lives there still", x.heir(0, 1), 1);
        Check.refused(x, "he is there", x.move(0, 1), 5);
        Check.refused(x, "it is collapsed", x.fill(0, 1), 5);
        Check.refused(x, "none stands", x.take(0), 6);
        Check.fine(x, "out", x.move(0, 0));
        Check.refused(x, "not in again", x.move(0, 1), 5);
    }

    private static void giveOneOrAll() {
        YearSkins x = told(house("a", 3, 3, 7) + house("b", 8, 8, 0));
        Check.refused(x, "0", x.give(0, 1, 0), 2);
        Check.refused(x, "8 of 7", x.give(0, 1, 8), 2);
        Check.refused(x, "1 of 0", x.give(1, 0, 1), 2);
        Check.fine(x, "1", x.give(0, 1, 1));
        Check.due("gold", x.house(0, 3), 6);
        Check.due("gold", x.house(1, 3), 1);
        Check.fine(x, "all", x.give(0, 1, 6));
        Check.due("gold", x.house(0, 3), 0);
        Check.due("gold", x.house(1, 3), 7);
        Check.refused(x, "nothing is left", x.give(0, 1, 1), 2);
    }

    private static void giveUpTo999() {
        YearSkins x = told(house("a", 3, 3, 999) + house("b", 8, 8, 998) + house("c", 0, 11, 0));
        Check.refused(x, "1000 then", x.give(0, 1, 2), 2);
        Check.fine(x, "999 then", x.give(0, 1, 1));
        Check.refused(x, "more", x.give(0, 1, 1), 2);
        Check.fine(x, "998", x.give(0, 2, 998));
        Check.due("gold", x.house(2, 3), 998);
        Check.refused(x, "1000 of 999", x.give(1, 0, 1000), 2);
        Check.fine(x, "999", x.give(1, 0, 999));
        Check.due("gold", x.house(0, 3), 999);
        Check.due("gold", x.house(1, 3), 0);
    }

    private static void seedFrom0To65536() {
        YearSkins x = told(house("a", 3, 3, 0));
        for (int v : new int[] {0, 1, 65535, 65536, 65536, 0}) {
            Check.fine(x, "seed " + v, x.seed(v));
            Check.due("seed", x.size(9), v);
        }
        Check.refused(x, "65537", x.seed(65537), 2);
        Check.refused(x, "-1", x.seed(-1), 2);
        Check.due("seed", x.size(9), 0);
        Check.due("no ACT", x.size(10), 0);
        Check.refused(x, "nothing to undo", x.undo(), 6);
    }

    private static final String ALL = house("a", 3, 3, 500) + house("b", 8, 8, 500) + skins("a", 2) + ";heir h a 2;wall p";

    /** Each of the seven ACTS, by its number. */
    private static void act(YearSkins x, int which) {
        switch (which) {
            case 0:
                Check.fine(x, "years", x.years(3), 2);
                break;
            case 1:
                Check.fine(x, "build", x.build(1, 1, 0, 0, 9), 40);
                break;
            case 2:
                Check.fine(x, "fill", x.fill(0, 1));
                break;
            case 3:
                Check.fine(x, "take", x.take(0), 4);
                break;
            case 4:
                Check.fine(x, "lock", x.lock(0, 1, 77));
                break;
            case 5:
                Check.fine(x, "move", x.move(0, 0));
                break;
            default:
                Check.fine(x, "give", x.give(0, 1, 9));
                break;
        }
    }

    private static void undoEachAct() {
        for (int which = 0; which < 7; which++) {
            YearSkins x = told(ALL);
            String before = Seen.now(x);
            act(x, which);
            Check.due("one ACT", x.size(10), 1);
            Check.due("it changes something", Seen.now(x).equals(before), false);
            Check.fine(x, "undo", x.undo());
            Check.same("undone " + which, Seen.now(x), before);
            Check.refused(x, "undo is no ACT", x.undo(), 6);
        }
    }

    private static void undoTen() {
        for (int acts = 9; acts <= 12; acts++) {
            YearSkins x = told(ALL);
            for (int i = 1; i <= acts; i++) {
                x.lock(0, 1, 10 + i);
                Check.due("ACTS", x.size(10), Math.min(i, 10));
            }
            int kept = Math.min(acts, 10);
            for (int i = 1; i <= kept; i++) {
                Check.fine(x, "undo", x.undo());
                int left = acts - i;
                Check.due("lock", x.skin(0, 1, 3), left == 0 ? 5 : 10 + left);
                Check.due("ACTS", x.size(10), kept - i);
            }
            Check.refused(x, "no more", x.undo(), 6);
            Check.due("lock", x.skin(0, 1, 3), acts <= 10 ? 5 : acts);
        }
    }

    /** The ten that are kept go round: many more than ten, with some undone between. */
    private static void undoAgainAndAgain() {
        YearSkins x = told(ALL);
        int[] locks = new int[200];
        int top = 0;
        int kept = 0;
        locks[0] = 5;
        for (int i = 0; i < 60; i++) {
            if (i % 5 == 4) {
                Check.fine(x, "undo", x.undo());
                top--;
                kept--;
            } else {
                top++;
                locks[top] = 20 + i;
                kept = Math.min(10, kept + 1);
                Check.fine(x, "lock", x.lock(0, 1, 20 + i));
            }
            Check.due("lock", x.skin(0, 1, 3), locks[top]);
            Check.due("ACTS", x.size(10), kept);
        }
        for (; kept > 0; kept--) {
            top--;
            Check.fine(x, "undo", x.undo());
            Check.due("lock", x.skin(0, 1, 3), locks[top]);
        }
        Check.refused(x, "no more", x.undo(), 6);
    }

    private static void undoTheSeed() {
        YearSkins x = told(ALL);
        x.seed(11);
        x.lock(0, 1, 1);
        x.seed(22);
        x.lock(0, 1, 2);
        x.seed(33);
        x.undo();
        Check.due("as ahead of the second", x.size(9), 22);
        x.undo();
        Check.due("as ahead of the first", x.size(9), 11);
        // The latest SEED is no ACT, and is gone with one.
        x.lock(0, 1, 3);
        x.undo();
        Check.due("as ahead", x.size(9), 11);
    }

    private static void markThree() {
        YearSkins x = told(ALL);
        Check.refused(x, "no mark yet", x.back(0), 1);
        for (int i = 0; i < 3; i++) {
            Check.fine(x, "mark", x.mark(), i);
            Check.due("marks", x.size(11), i + 1);
            Check.refused(x, "none behind it", x.back(i + 1), 1);
        }
        for (int i = 0; i < 3; i++) {
            Check.refused(x, "a fourth", x.mark(), 3);
            Check.due("marks", x.size(11), 3);
        }
        Check.refused(x, "-1", x.back(-1), 1);
        Check.fine(x, "the third", x.back(2));
        Check.refused(x, "a fourth still", x.mark(), 3);
    }

    private static void marksKeepAll() {
        YearSkins x = told(ALL);
        x.seed(5);
        String[] seen = new String[3];
        for (int i = 0; i < 3; i++) {
            seen[i] = sizesAside(Seen.now(x));
            x.mark();
            act(x, 6);
            act(x, i == 0 ? 5 : i == 1 ? 2 : 0);
            x.seed(100 + i);
        }
        for (int mark : new int[] {1, 0, 2, 2, 0, 1}) {
            Check.fine(x, "back", x.back(mark));
            Check.same("back to " + mark, sizesAside(Seen.now(x)), seen[mark]);
            Check.due("nothing can be undone", x.size(10), 0);
            Check.refused(x, "undo", x.undo(), 6);
            Check.due("all marks stay", x.size(11), 3);
        }
    }

    /** Without how many ACTS can be undone, and how many MARKS there are. */
    private static String sizesAside(String seen) {
        return seen.replaceFirst("^(sizes( \\d+){10}) \\d+ \\d+", "$1");
    }

    private static void marksStay() {
        YearSkins x = told(ALL);
        act(x, 4);
        Check.fine(x, "mark", x.mark(), 0);
        Check.due("a mark is no ACT", x.size(10), 1);
        x.undo();
        Check.due("undo leaves marks", x.size(11), 1);
        Check.due("lock", x.skin(0, 1, 3), 5);
        Check.fine(x, "back", x.back(0));
        Check.due("lock", x.skin(0, 1, 3), 77);
        // ACTS behind it can be undone, up to it.
        act(x, 6);
        act(x, 5);
        Check.due("ACTS", x.size(10), 2);
        x.undo();
        x.undo();
        Check.refused(x, "not beyond it", x.undo(), 6);
        Check.due("lock", x.skin(0, 1, 3), 77);
        Check.fine(x, "a second", x.mark(), 1);
    }

    private static void aNewLand() {
        YearSkins x = told(ALL);
        String before = Seen.now(x);
        act(x, 4);
        x.mark();
        act(x, 0);
        x.mark();
        x.seed(9);
        Check.fine(x, "land", Check.tell(x, "land wide 12 high 12 doors near share no;years 100 births 0 fire 0 earns 0" + STONES + ALL), 2);
        Check.same("as told", Seen.now(x), before);
        Check.refused(x, "nothing to undo", x.undo(), 6);
        Check.refused(x, "no marks", x.back(0), 1);
        Check.fine(x, "the first mark", x.mark(), 0);
        // A lesser LAND has nothing of the one ahead of it.
        String less = "land wide 3 high 4 doors far share yes;years 0 births 0 fire 0 earns 0;stone s wood costs 2 warm 0 rots 0 strong 1"
                + ";house z at 1,1 of s family 0 gold 1";
        Check.fine(x, "land", Check.tell(x, less), 1);
        Check.same("as told anew", Seen.now(x), Seen.now(Check.told(less)));
        Check.refused(x, "no heir", x.heir(0, 0), 1);
        Check.refused(x, "no wall", x.soonest(0), 1);
        Check.refused(x, "no second house", x.house(1, 0), 1);
        Check.refused(x, "no second stone", x.stone(1, 0), 1);
        Check.refused(x, "no skin", x.skin(0, 1, 0), 1);
    }

    /** Whatever was told ahead, whole or with a FAULT, a LAND is as on a new object. */
    private static void nothingOfOtherLands() {
        String full = "land wide 12 high 12 doors far share yes;water 0,0;water 5,5;water 5,6;years 900 births 100 fire 100 earns 9" + STONES
                + house("a", 2, 2, 5) + house("b", 9, 9, 5) + skins("a", 1) + skins("b", 2) + ";heir h a 1;heir i b 1;heir j b 2"
                + ";wall p;wall q;wall r;older q p;older r q;coin p 800;smell r 3";
        String less = "land wide 12 high 12 doors near share no;years 100 births 0 fire 0 earns 0" + STONES
                + house("z", 5, 3, 500) + house("y", 9, 9, 500) + skins("z", 1) + skins("y", 2) + ";heir k y 0;wall u;wall v;wall x";
        String due = Seen.now(Check.told(less));
        YearSkins x = new YearSkins();
        for (int i = 0; i < 4; i++) {
            Check.fine(x, "full", Check.tell(x, i % 2 == 0 ? full : full + ";wall t"), 2);
            if (i > 1) {
                Check.refused(x, "with a fault", Check.tell(x, full + ";wall p"), 4);
            }
            if (i == 3) {
                Check.fine(x, "full", Check.tell(x, full), 2);
            }
            Check.fine(x, "less", Check.tell(x, less), 2);
            Check.same("less", Seen.now(x), due);
            Check.due("orders", x.orders(), 6);
            Check.due("fits where there was water", x.fits(0), 1);
            Check.fine(x, "fill where an heir of another land lived", x.fill(1, 1));
            Check.fine(x, "fill where an heir of another land lived", x.fill(1, 2));
            Check.due("worth", x.worth(1), 4);
        }
    }

    /** What is kept is kept of all houses, the last SKIN of the last one too. */
    private static void fourHouses() {
        String text = house("a", 2, 2, 900) + house("b", 9, 2, 900) + house("c", 2, 9, 900) + house("d", 9, 9, 900)
                + skins("a", 2) + skins("b", 2) + skins("c", 2) + skins("d", 2) + ";heir h d 2";
        for (int h = 0; h < 4; h++) {
            YearSkins x = told(text);
            String before = sizesAside(Seen.now(x));
            Check.fine(x, "mark", x.mark(), 0);
            x.move(0, 0);
            x.lock(h, 1, 11);
            x.lock(h, 2, 22);
            x.fill(h, 1);
            x.fill(h, 2);
            x.take(h);
            x.give(h, (h + 1) % 4, 50);
            Check.due("lock", x.skin(h, 2, 3), 22);
            Check.due("filled", x.skin(h, 2, 6), 1);
            Check.due("collapsed in 0 years", x.falls(h, 1, 0), 0);
            Check.due("stands", x.falls(h, 2, 60), -2);
            Check.due("collapsed in 60", x.in(h, 60, 3), 1);
            String behind = sizesAside(Seen.now(x));
            x.mark();
            for (int i = 0; i < 7; i++) {
                Check.fine(x, "undo", x.undo());
            }
            Check.same("undone", sizesAside(Seen.now(x)), before);
            x.back(1);
            Check.same("marked", sizesAside(Seen.now(x)), behind);
            x.back(0);
            Check.same("back", sizesAside(Seen.now(x)), before);
        }
        YearSkins deep = told(house("a", 1, 0, 9) + house("b", 3, 0, 9) + house("c", 11, 11, 9) + house("d", 5, 6, 900) + skins("d", 4));
        deep.build(3, 1, 1, 8, 55);
        deep.lock(3, 5, 66);
        deep.mark();
        deep.lock(3, 5, 77);
        deep.undo();
        Check.due("lock of the fifth skin of the fourth house", deep.skin(3, 5, 3), 66);
        deep.lock(3, 5, 77);
        deep.back(0);
        Check.due("lock", deep.skin(3, 5, 3), 66);
        Check.due("place", deep.skin(3, 5, 2), 8);
        Check.due("in 60", deep.in(3, 60, 0), 5);
    }

    private static void sixHeirs() {
        for (int room = 1; room <= 2; room++) {
            StringBuilder heirs = new StringBuilder();
            for (int i = 0; i < 6; i++) {
                heirs.append(";heir h").append((char) ('a' + i)).append(" a ").append(i == 5 ? room : 0);
            }
            YearSkins x = told(house("a", 6, 6, 0) + skins("a", 2) + heirs);
            Check.refused(x, "the sixth lives there", x.fill(0, room), 5);
            Check.fine(x, "none lives there", x.fill(0, 3 - room));
            Check.due("worth", x.worth(0), room == 1 ? 0 : 4);
            Check.fine(x, "move", x.move(5, 0));
            Check.fine(x, "none lives there", x.fill(0, room));
            Check.due("worth", x.worth(0), 4);
            Check.due("room", x.heir(5, 1), 0);
            x.undo();
            x.undo();
            Check.due("room", x.heir(5, 1), room);
            Check.refused(x, "no seventh", x.move(6, 0), 1);
        }
    }
}
