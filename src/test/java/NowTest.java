/** Promises 6 to 20, 48 and 49: what is whose, houses, SKINS, heirs, where a new one fits, ways in. */
public final class NowTest {
    private static final String STONES = ";years 5 births 0 fire 0 earns 0"
            + ";stone g hard costs 3 warm 4 rots 1 strong 30;stone w wood costs 2 warm 1 rots 0 strong 5";

    public static void main(String[] args) {
        cells();
        sharedCells();
        houses();
        skins();
        doorsByLaw();
        ways();
        throughWalls();
        collapsedAndFilled();
        shutHouses();
        Check.end();
    }

    private static YearSkins two(String law, String share) {
        return Check.told("land wide 10 high 8 doors " + law + " share " + share + STONES + ";water 0,0;water 9,7"
                + ";house a at 3,3 of g family 17 gold 100;house b at 8,4 of w family 1 gold 999"
                + ";skin a g west 0 lock 3;skin a w south 2 lock 9;heir h a 1;heir i a 0;heir j b 0");
    }

    private static void cells() {
        YearSkins x = two("near", "no");
        Check.fine(x, "whose water", x.whose(0, 0), 0);
        Check.fine(x, "whose core", x.whose(3, 3), 1);
        Check.fine(x, "whose skin", x.whose(5, 1), 1);
        Check.fine(x, "whose none", x.whose(6, 1), 0);
        Check.fine(x, "whose b", x.whose(8, 4), 2);
        Check.refused(x, "whose west", x.whose(-1, 0), 1);
        Check.refused(x, "whose north", x.whose(0, -1), 1);
        Check.refused(x, "whose east", x.whose(10, 0), 1);
        Check.refused(x, "whose south", x.whose(0, 8), 1);
        Check.fine(x, "free", x.free(), 80 - 2 - 25 - 1);
        Check.fine(x, "shared", x.shared(), 0);
        Check.due("wide", x.size(0), 10);
        Check.due("high", x.size(1), 8);
        Check.due("near", x.size(2), 0);
        Check.due("share", x.size(3), 0);
        Check.due("stones", x.size(4), 2);
        Check.due("houses", x.size(5), 2);
        Check.due("heirs", x.size(6), 3);
        Check.due("walls", x.size(7), 0);
        Check.due("year", x.size(8), 5);
        Check.due("far", two("far", "yes").size(2), 1);
        Check.due("yes", two("far", "yes").size(3), 1);
    }

    private static void sharedCells() {
        YearSkins x = two("near", "yes");
        // SKIN 1 of b is beside SKIN 2 of a; SKIN 3 of a would lie on b's, not on its core.
        Check.fine(x, "b fits", x.fits(1), 1);
        Check.due("build b", x.build(1, 1, 0, 0, 0), 16);
        Check.fine(x, "shared", x.shared(), 0);
        // SKIN 3 of a: x 0 .. 6 runs off no land, but y 0 .. 6, and water at 0, 0.
        Check.fine(x, "a fits", x.fits(0), 0);
        YearSkins y = Check.told("land wide 9 high 5 doors near share yes" + STONES
                + ";house a at 2,2 of g family 0 gold 999;house b at 5,2 of g family 0 gold 999"
                + ";skin a g north 0 lock 0;skin a g north 0 lock 0");
        Check.fine(y, "b fits on the outermost", y.fits(1), 1);
        Check.due("door of b is not towards a", y.door(1), 0);
        Check.refused(y, "door into a", y.build(1, 0, 3, 0, 0), 5);
        Check.due("build b", y.build(1, 0, 1, 0, 0), 24);
        Check.fine(y, "shared", y.shared(), 3);
        Check.due("whose", y.whose(4, 2), 3);
        Check.fine(y, "free", y.free(), 45 - 25 - 9 + 3);
        Check.due("b second does not fit within a", y.fits(1), 0);
        Check.due("no room", y.room(1), 0);
        YearSkins z = Check.told("land wide 9 high 5 doors near share no" + STONES
                + ";house a at 2,2 of g family 0 gold 999;house b at 5,2 of g family 0 gold 999"
                + ";skin a g north 0 lock 0;skin a g north 0 lock 0");
        Check.fine(z, "b doesn't fit without share", z.fits(1), 0);
        Check.fine(z, "no door", z.door(1), -2);
        Check.refused(z, "build", z.build(1, 0, 1, 0, 0), 5);
        // The core is SKIN 0: alone it is its house's outermost, and can be shared.
        YearSkins core = Check.told("land wide 5 high 5 doors near share yes" + STONES
                + ";house a at 2,2 of g family 0 gold 999;house b at 3,2 of g family 0 gold 999");
        Check.due("over a core", core.fits(0), 1);
        YearSkins apart = Check.told("land wide 5 high 5 doors near share no" + STONES
                + ";house a at 2,2 of g family 0 gold 999;house b at 3,2 of g family 0 gold 999");
        Check.due("not over a core", apart.fits(0), 0);
    }

    private static void houses() {
        YearSkins x = two("near", "no");
        Check.fine(x, "core", x.house(0, 0), 33);
        Check.fine(x, "core b", x.house(1, 0), 48);
        Check.fine(x, "skins", x.house(0, 1), 2);
        Check.fine(x, "family", x.house(0, 2), 17);
        Check.fine(x, "gold", x.house(0, 3), 100);
        Check.fine(x, "stone", x.house(1, 4), 1);
        Check.fine(x, "shut", x.house(0, 5), 0);
        Check.fine(x, "crowded above 16", x.house(0, 6), 1);
        Check.fine(x, "core alone, family 1", x.house(1, 6), 0);
        Check.refused(x, "what 7", x.house(0, 7), 1);
        Check.refused(x, "what -1", x.house(0, -1), 1);
        Check.refused(x, "house 2", x.house(2, 0), 1);
        Check.refused(x, "house -1", x.house(-1, 0), 1);
        YearSkins y = Check.told("land wide 5 high 5 doors near share no" + STONES
                + ";house a at 2,2 of g family 8 gold 0;skin a g north 0 lock 0");
        Check.due("8 in 8", y.house(0, 6), 0);
        YearSkins z = Check.told("land wide 5 high 5 doors near share no" + STONES + ";house a at 2,2 of g family 2 gold 0");
        Check.due("2 in a core", z.house(0, 6), 1);
        Check.fine(x, "stone kind", x.stone(1, 0), 2);
        Check.fine(x, "stone hard", x.stone(0, 0), 0);
        Check.fine(x, "stone costs", x.stone(0, 1), 3);
        Check.fine(x, "stone warm", x.stone(0, 2), 4);
        Check.fine(x, "stone rots", x.stone(0, 3), 1);
        Check.fine(x, "stone strong", x.stone(0, 4), 30);
        Check.refused(x, "stone what", x.stone(0, 5), 1);
        Check.refused(x, "stone what", x.stone(0, -1), 1);
        Check.refused(x, "stone 2", x.stone(2, 0), 1);
        Check.refused(x, "stone -1", x.stone(-1, 0), 1);
    }

    private static void skins() {
        YearSkins x = two("near", "no");
        int[][] due = {{0, 3, 0, 3, 0, 0, 0, -2}, {1, 2, 2, 9, 0, 0, 0, -2}};
        for (int r = 1; r <= 2; r++) {
            for (int what = 0; what < 8; what++) {
                Check.fine(x, "skin " + r + " " + what, x.skin(0, r, what), due[r - 1][what]);
            }
        }
        Check.refused(x, "core", x.skin(0, 0, 0), 1);
        Check.refused(x, "skin 3", x.skin(0, 3, 0), 1);
        Check.refused(x, "what 8", x.skin(0, 1, 8), 1);
        Check.refused(x, "what -1", x.skin(0, 1, -1), 1);
        Check.refused(x, "house", x.skin(2, 1, 0), 1);
        Check.fine(x, "warm 0", x.warm(0, 0), 5);
        Check.fine(x, "warm 1", x.warm(0, 1), 5);
        Check.fine(x, "warm 2", x.warm(0, 2), 1);
        Check.fine(x, "warm of a core alone", x.warm(1, 0), 0);
        Check.refused(x, "warm 3", x.warm(0, 3), 1);
        Check.refused(x, "warm -1", x.warm(0, -1), 1);
        Check.fine(x, "light 0", x.light(0, 0), 3);
        Check.fine(x, "light 1", x.light(0, 1), 6);
        Check.fine(x, "light 2", x.light(0, 2), 9);
        Check.refused(x, "light 3", x.light(0, 3), 1);
        Check.refused(x, "light of no house", x.light(2, 0), 1);
        Check.fine(x, "heir house", x.heir(2, 0), 1);
        Check.fine(x, "heir skin", x.heir(0, 1), 1);
        Check.fine(x, "heir warm", x.heir(0, 2), 5);
        Check.fine(x, "heir warm in a core alone", x.heir(2, 2), 0);
        Check.refused(x, "heir 3", x.heir(3, 0), 1);
        Check.refused(x, "heir -1", x.heir(-1, 0), 1);
        Check.refused(x, "heir what", x.heir(0, 3), 1);
        YearSkins y = Check.told("land wide 9 high 9 doors near share no" + STONES + ";house a at 4,4 of g family 8 gold 0"
                + ";skin a g north 0 lock 0;skin a g north 0 lock 0;skin a g north 0 lock 0;skin a g north 0 lock 0");
        Check.due("light is 0 at least", y.light(0, 0), 0);
        Check.due("light by three", y.light(0, 1), 0);
        Check.due("light by two", y.light(0, 2), 3);
    }

    private static void doorsByLaw() {
        YearSkins near = two("near", "no");
        YearSkins far = two("far", "no");
        Check.fine(near, "a doesn't fit", near.fits(0), 0);
        Check.fine(near, "no door", near.door(0), -2);
        Check.fine(near, "price", near.costs(0, 1), 48);
        Check.fine(near, "price of g", near.costs(1, 0), 24);
        Check.refused(near, "costs of no stone", near.costs(1, 2), 1);
        Check.refused(near, "costs of no house", near.costs(2, 0), 1);
        Check.refused(near, "fits of no house", near.fits(2), 1);
        Check.refused(near, "door of no house", near.door(-1), 1);
        Check.refused(near, "room of no house", near.room(2), 1);
        Check.fine(near, "first of like doors", near.door(1), 0);
        Check.fine(far, "first of like doors", far.door(1), 0);
        String open = " share no" + STONES + ";house a at 4,4 of g family 1 gold 999;skin a g south 0 lock 0";
        YearSkins x = Check.told("land wide 9 high 9 doors near" + open);
        // In front of the south door is place 10 of SKIN 2, which is the middle of its south.
        Check.fine(x, "near", x.door(0), 201);
        Check.fine(x, "room", x.room(0), 2);
        YearSkins y = Check.told("land wide 9 high 9 doors far" + open);
        Check.fine(y, "far", y.door(0), 1);
        // Water in front of the best one: the next best, the first of like ones.
        String wet = " share no" + STONES + ";water 4,7;water 4,1"
                + ";house a at 4,4 of g family 1 gold 999;skin a g south 0 lock 0";
        Check.due("near by water", Check.told("land wide 9 high 9 doors near" + wet).door(0), 200);
        Check.due("far by water", Check.told("land wide 9 high 9 doors far" + wet).door(0), 0);
        // On a land of its own size a SKIN fits, but has no door.
        YearSkins z = Check.told("land wide 3 high 3 doors near share no" + STONES + ";house a at 1,1 of g family 1 gold 999");
        Check.due("fits", z.fits(0), 1);
        Check.due("no door", z.door(0), -2);
        Check.due("no room", z.room(0), 0);
        Check.refused(z, "build", z.build(0, 0, 0, 0, 0), 5);
        Check.due("no growth", z.years(5), 0);
        // The LAW's WAY is counted as if nothing were filled.
        x.fill(0, 1);
        Check.due("near, filled", x.door(0), 201);
    }

    private static void ways() {
        YearSkins x = two("near", "no");
        // West door of SKIN 1 is at 2, 3; in front of it 1, 3: place 14 of SKIN 2. Its south door at 4, 5: place 9.
        Check.fine(x, "round", x.round(0, 2), 5);
        Check.fine(x, "way 2", x.way(0, 2), 1);
        Check.fine(x, "way 1", x.way(0, 1), 7);
        Check.fine(x, "way 0", x.way(0, 0), 8);
        Check.fine(x, "way to a core alone", x.way(1, 0), 0);
        Check.refused(x, "way 3", x.way(0, 3), 1);
        Check.refused(x, "way -1", x.way(0, -1), 1);
        Check.refused(x, "way of no house", x.way(2, 0), 1);
        Check.refused(x, "through 3", x.through(0, 3), 1);
        Check.refused(x, "through of no house", x.through(-1, 0), 1);
        Check.refused(x, "breaks 3", x.breaks(0, 3), 1);
        Check.refused(x, "breaks of no house", x.breaks(4, 0), 1);
        Check.refused(x, "round 1", x.round(0, 1), 1);
        Check.refused(x, "round 3", x.round(0, 3), 1);
        Check.refused(x, "round of a core alone", x.round(1, 2), 1);
        // North place 0 of SKIN 2 is its place 1, in front of the west door is 14: round by the north-west corner.
        YearSkins y = Check.told("land wide 9 high 9 doors near share no" + STONES + ";house a at 4,4 of g family 8 gold 0"
                + ";skin a g west 0 lock 0;skin a g north 0 lock 0;skin a g east 4 lock 0");
        Check.due("round about the corner", y.round(0, 2), 3);
        // East place 4 of SKIN 3 is place 11; in front of place 1 of SKIN 2 is place 2.
        Check.due("round 3", y.round(0, 3), 9);
        Check.due("way 0", y.way(0, 0), 3 + 3 + 9 + 1);
    }

    private static void throughWalls() {
        YearSkins x = two("near", "no");
        // SKIN 2 of wood, strong 5, lock 9: through its wall 5 at place 9 (4, 5).
        Check.fine(x, "through 2", x.through(0, 2), 5);
        Check.fine(x, "breaks 2", x.breaks(0, 2), 1);
        // SKIN 1 is strong 30, its door at 5 places: 5 and lock 3 and 1.
        Check.fine(x, "through 1", x.through(0, 1), 14);
        Check.fine(x, "breaks 1", x.breaks(0, 1), 1);
        Check.fine(x, "through 0", x.through(0, 0), 15);
        Check.fine(x, "breaks 0", x.breaks(0, 0), 1);
        Check.fine(x, "through of a core alone", x.through(1, 0), 0);
        Check.fine(x, "breaks of a core alone", x.breaks(1, 0), 0);
        // By lock 4 and 1 as many minutes as by the wall: the fewer walls.
        x.lock(0, 2, 4);
        Check.due("as many minutes", x.through(0, 2), 5);
        Check.due("no wall", x.breaks(0, 2), 0);
        // Corners can't be gone through: from place 1 of SKIN 2 to a wall of SKIN 1, one place on to 2.
        YearSkins y = Check.told("land wide 9 high 9 doors near share no" + STONES + ";house a at 4,4 of g family 8 gold 0"
                + ";skin a w south 0 lock 99;skin a g north 0 lock 0");
        Check.due("one on, and the wall", y.through(0, 1), 1 + 1 + 5);
        Check.due("one wall", y.breaks(0, 1), 1);
    }

    private static void collapsedAndFilled() {
        YearSkins x = two("near", "no");
        x.move(0, 0);
        x.fill(0, 1);
        Check.due("way to the filled", x.way(0, 1), -2);
        Check.due("way to the core", x.way(0, 0), -2);
        Check.due("way to 2", x.way(0, 2), 1);
        // To the filled by its door or its wall 20: the wall is just within place 10, one on from the door's.
        Check.due("through the filled", x.through(0, 1), 5 + 1 + 20);
        Check.due("warm is as it was", x.warm(0, 0), 5);
        x.take(0);
        Check.due("taken is collapsed", x.skin(0, 1, 5), 1);
        Check.due("and filled no more", x.skin(0, 1, 6), 0);
        Check.due("through the collapsed", x.through(0, 1), 5 + 1 + 1);
        Check.due("its wall counts", x.breaks(0, 1), 2);
        Check.due("way to the collapsed", x.way(0, 1), -2);
        Check.due("warm without it", x.warm(0, 0), 1);
        Check.due("light counts it", x.light(0, 0), 3);
    }

    private static void shutHouses() {
        YearSkins x = Check.told("land wide 12 high 7 doors near share no" + STONES + ";water 1,5"
                + ";house a at 1,3 of g family 0 gold 0;house b at 5,1 of g family 0 gold 0"
                + ";house c at 8,1 of g family 0 gold 0;house d at 9,5 of g family 0 gold 0"
                + ";skin a g south 0 lock 0;skin b g north 0 lock 0;skin c g west 0 lock 0");
        Check.due("water", x.house(0, 5), 1);
        Check.due("beyond the land", x.house(1, 5), 1);
        Check.due("another house", x.house(2, 5), 1);
        Check.due("core alone", x.house(3, 5), 0);
        int trouble = x.trouble();
        Check.due("led 0", Check.led(x, 0), 0);
        Check.due("led 2", Check.led(x, 2), 2);
        Check.due("led 3", Check.led(x, 3), -1);
        Check.due("led -1", Check.led(x, -1), -1);
        Check.due("led leaves trouble", x.trouble(), trouble);
        YearSkins y = two("near", "no");
        Check.due("none is led", Check.led(y, 0), -1);
    }
}
