/** A YEAR, and promises 21 to 36: what will be, at the bounds that the document names. */
public final class FutureBoundsTest {
    private static final int SEEDS = 65537;

    public static void main(String[] args) {
        drawsGoRound();
        belowBirths();
        belowFire();
        drawsOfEachHouse();
        goldAtMost();
        familyAtMost();
        noFamily();
        strongEnough();
        withinIsCollapsed();
        withinCollapsesInTheSameYear();
        filledRotsNot();
        collapsedRotsNot();
        woodAlone();
        fireBehindRot();
        justEnoughGold();
        oneSkinAYear();
        lockByTheFamily();
        noDoorNoGrowth();
        stoneOfItsHouse();
        growsAboutTheCollapsed();
        growsBehindTheFire();
        houseByHouse();
        inFrom0To60();
        whatOfIn();
        shutIn();
        meeting();
        meetingByCorners();
        falling();
        room();
        first();
        heads();
        takesAndWorth();
        ordersByYears();
        noOrders();
        yearsFrom1To20();
        upToYear999();
        Check.end();
    }

    private static String land(String years, String rest) {
        return "land wide 9 high 9 doors near share no;years " + years
                + ";stone g hard costs 1 warm 3 rots 2 strong 5;stone f soft costs 3 warm 2 rots 0 strong 9"
                + ";stone w wood costs 9 warm 1 rots 0 strong 99" + rest;
    }

    private static int next(int seed) {
        return (int) ((75L * seed + 74) % SEEDS);
    }

    /** The SEED of which the next one is drawn. */
    private static int aheadOf(int draw) {
        for (int seed = 0; seed < SEEDS; seed++) {
            if (next(seed) == draw) {
                return seed;
            }
        }
        return -1;
    }

    private static void drawsGoRound() {
        // No family but of one house, so that a YEAR makes two DRAWS.
        int[][] rows = {{0, 74, 5624}, {872, 65474, 60886}, {873, 12, 974}, {65535, 65461, 59911}, {65536, 65536, 65536}};
        for (int[] row : rows) {
            Check.due("next", next(row[0]), row[1]);
            YearSkins x = Check.told(land("1 births 0 fire 0 earns 0", ";house a at 0,0 of g family 1 gold 0"));
            x.seed(row[0]);
            x.years(1);
            Check.due("seed behind " + row[0], x.size(9), row[2]);
        }
        YearSkins x = Check.told(land("1 births 0 fire 0 earns 0", ";house a at 0,0 of g family 1 gold 0"));
        x.seed(aheadOf(aheadOf(0)));
        x.years(1);
        Check.due("to 0", x.size(9), 0);
    }

    /** DRAWS of which the hundredth part's rest is 0, 1, 36, 98, 99, near both ends too. */
    private static void belowBirths() {
        for (int draw : new int[] {0, 1, 98, 99, 100, 36, 65499, 65500, 65501, 65536}) {
            int rest = draw % 100;
            for (int births : new int[] {0, rest - 1, rest, rest + 1, 100}) {
                if (births >= 0 && births <= 100) {
                    YearSkins x = Check.told(land("1 births " + births + " fire 0 earns 0", ";house a at 0,0 of g family 1 gold 0"));
                    int due = rest < births ? 2 : 1;
                    Check.due("births " + births + " by " + draw, x.heads(aheadOf(draw), 1), due);
                    x.seed(aheadOf(draw));
                    Check.due("births " + births + " by " + draw, x.in(0, 1, 1), due);
                    x.years(1);
                    Check.due("births " + births + " by " + draw, x.house(0, 2), due);
                }
            }
        }
    }

    private static void belowFire() {
        for (int draw : new int[] {0, 1, 98, 99, 100, 65499, 65500, 65536}) {
            int rest = draw % 100;
            for (int fire : new int[] {0, rest - 1, rest, rest + 1, 100}) {
                if (fire >= 0 && fire <= 100) {
                    YearSkins x = Check.told(land("1 births 0 fire " + fire + " earns 0", ";house a at 4,4 of g family 1 gold 0;skin a w north 0 lock 0"));
                    x.seed(aheadOf(aheadOf(draw)));
                    Check.due("fire " + fire + " by " + draw, x.falls(0, 1, 1), rest < fire ? 1 : -2);
                    x.years(1);
                    Check.due("fire " + fire + " by " + draw, x.skin(0, 1, 5), rest < fire ? 1 : 0);
                }
            }
        }
    }

    /** Births, then fire, of one house behind the other; a house without a family has none. */
    private static void drawsOfEachHouse() {
        String houses = ";house a at 0,0 of g family # gold 0;house b at 8,0 of g family # gold 0;house c at 0,8 of g family # gold 0"
                + ";house d at 8,8 of g family # gold 0";
        for (int bits = 0; bits < 16; bits++) {
            String text = houses;
            int seed = 5;
            int[] due = new int[4];
            for (int h = 0; h < 4; h++) {
                boolean any = (bits >> h & 1) == 1;
                text = text.replaceFirst("#", any ? "7" : "0");
                if (any) {
                    int births = next(seed);
                    due[h] = births % 100 < 50 ? 8 : 7;
                    seed = next(births);
                }
            }
            YearSkins x = Check.told(land("1 births 50 fire 50 earns 0", text));
            x.seed(5);
            x.years(1);
            Check.due("seed by families " + bits, x.size(9), seed);
            Check.due("the year is one more", x.size(8), 2);
            for (int h = 0; h < 4; h++) {
                Check.due("family " + h + " by families " + bits, x.house(h, 2), due[h]);
            }
        }
    }

    private static void goldAtMost() {
        int[][] rows = {{1, 1, 997, 998}, {1, 1, 998, 999}, {1, 1, 999, 999}, {99, 9, 107, 998}, {99, 9, 108, 999}, {99, 9, 109, 999},
            {99, 9, 999, 999}, {99, 0, 999, 999}, {99, 0, 5, 5}, {1, 9, 0, 9}};
        for (int[] row : rows) {
            YearSkins x = Check.told(land("1 births 0 fire 0 earns " + row[1], ";house a at 0,0 of g family " + row[0] + " gold " + row[2]));
            Check.due("gold " + row[2] + " and " + row[0] + " times " + row[1], x.in(0, 1, 2), row[3]);
            x.years(1);
            Check.due("gold behind a year", x.house(0, 3), row[3]);
        }
        // It is earned by the family ahead of the birth.
        YearSkins x = Check.told(land("1 births 100 fire 0 earns 9", ";house a at 0,0 of g family 1 gold 0"));
        Check.due("ahead of the birth", x.in(0, 1, 2), 9);
        Check.due("behind it", x.in(0, 2, 2), 9 + 18);
        // What is above 999 is gone ahead of growing.
        YearSkins y = Check.told(land("1 births 0 fire 0 earns 9", ";house a at 4,4 of g family 99 gold 999"));
        Check.due("999 less 8", y.in(0, 1, 2), 991);
    }

    private static void familyAtMost() {
        for (int family : new int[] {97, 98, 99}) {
            YearSkins x = Check.told(land("1 births 100 fire 0 earns 0", ";house a at 0,0 of g family " + family + " gold 0"));
            Check.due("family of " + family, x.in(0, 1, 1), Math.min(99, family + 1));
            Check.due("heads of " + family, x.heads(0, 60), 99);
            x.years(20);
            Check.due("family of " + family, x.house(0, 2), 99);
        }
        YearSkins x = Check.told(land("1 births 100 fire 0 earns 0", ";house a at 0,0 of g family 99 gold 0;house b at 8,0 of g family 99 gold 0"
                + ";house c at 0,8 of g family 99 gold 0;house d at 8,8 of g family 99 gold 0"));
        Check.due("all heads", x.heads(0, 60), 396);
    }

    private static void noFamily() {
        YearSkins x = Check.told(land("1 births 100 fire 100 earns 9", ";house a at 4,4 of g family 0 gold 999;skin a g north 0 lock 0;skin a w north 0 lock 0"));
        String before = Seen.now(x);
        x.years(20);
        Check.due("the year", x.size(8), 21);
        x.undo();
        Check.due("the year ahead", x.size(8), 1);
        x.years(20);
        // The eight sizes ahead of the year stay, the SEED too; there is one ACT to undo.
        Check.same("nothing else", Seen.now(x), before.replaceFirst("^(sizes( \\d+){8}) 1 0 0 ", "$1 21 0 1 "));
        // One head is a family.
        YearSkins y = Check.told(land("1 births 0 fire 100 earns 9", ";house a at 4,4 of g family 1 gold 0;skin a w north 0 lock 0"));
        Check.due("earns", y.in(0, 1, 2), 9);
        Check.due("burns", y.in(0, 1, 3), 1);
    }

    private static void strongEnough() {
        int[][] rows = {{0, 1, -2}, {0, 99, -2}, {1, 1, 1}, {1, 2, 2}, {2, 5, 3}, {2, 6, 3}, {2, 7, 4}, {3, 9, 3}, {3, 10, 4}, {9, 1, 1},
            {9, 9, 1}, {9, 10, 2}, {9, 99, 11}, {1, 60, 60}, {1, 61, -2}, {1, 99, -2}};
        for (int[] row : rows) {
            YearSkins x = Check.told("land wide 9 high 9 doors near share no;years 1 births 0 fire 0 earns 0;stone s hard costs 1 warm 0 rots " + row[0]
                    + " strong " + row[1] + ";house a at 4,4 of s family 1 gold 0;skin a s north 0 lock 0");
            Check.due("rots " + row[0] + " strong " + row[1], x.falls(0, 1, 60), row[2]);
            int years = row[2] < 0 ? 60 : row[2];
            if (years > 1 && row[2] > 0) {
                Check.due("stands the year ahead", x.in(0, years - 1, 3), 0);
                Check.due("not in less", x.falls(0, 1, years - 1), -2);
            }
            Check.due("fallen", x.in(0, years, 3), row[2] < 0 ? 0 : 1);
        }
        YearSkins x = Check.told(land("1 births 0 fire 0 earns 0", ";house a at 4,4 of g family 1 gold 0;skin a g north 0 lock 0"));
        int[] rot = {0, 2, 4, 6, 6, 6};
        for (int year = 0; year < 6; year++) {
            Check.due("rot in " + year, x.skin(0, 1, 4), rot[year]);
            Check.due("collapsed in " + year, x.skin(0, 1, 5), year < 3 ? 0 : 1);
            x.years(1);
        }
    }

    /** About what is COLLAPSED hard and wood rot by 1 more, soft by 2; about the core, or what is FILLED, by none. */
    private static void withinIsCollapsed() {
        String[] kinds = {"hard", "soft", "wood"};
        for (int kind = 0; kind < 3; kind++) {
            String text = "land wide 9 high 9 doors near share no;years 1 births 0 fire 0 earns 0;stone s " + kinds[kind]
                    + " costs 1 warm 0 rots 3 strong 99;house a at 4,4 of s family 1 gold 0";
            String skin = ";skin a s north 0 lock 0";
            YearSkins x = Check.told(text + skin + skin + skin);
            x.take(0);
            x.years(1);
            Check.due("it rots no more", x.skin(0, 1, 4), 0);
            Check.due(kinds[kind] + " about it", x.skin(0, 2, 4), kind == 1 ? 5 : 4);
            Check.due(kinds[kind] + " about that", x.skin(0, 3, 4), 3);
            YearSkins y = Check.told(text + skin + skin);
            y.fill(0, 1);
            y.years(1);
            Check.due("filled", y.skin(0, 1, 4), 0);
            Check.due(kinds[kind] + " about the filled", y.skin(0, 2, 4), 3);
            YearSkins z = Check.told(text + skin);
            z.years(1);
            Check.due(kinds[kind] + " about the core", z.skin(0, 1, 4), 3);
        }
    }

    private static void withinCollapsesInTheSameYear() {
        YearSkins x = Check.told("land wide 9 high 9 doors near share no;years 1 births 0 fire 0 earns 0"
                + ";stone s hard costs 1 warm 0 rots 1 strong 1;stone t hard costs 1 warm 0 rots 0 strong 1;stone u soft costs 1 warm 0 rots 0 strong 3"
                + ";house a at 4,4 of s family 1 gold 0;skin a s north 0 lock 0;skin a t north 0 lock 0;skin a u north 0 lock 0;skin a t north 0 lock 0");
        Check.due("1", x.falls(0, 1, 9), 1);
        Check.due("2 by 1", x.falls(0, 2, 9), 1);
        Check.due("3 by 2, twice", x.falls(0, 3, 9), 2);
        Check.due("4 then", x.falls(0, 4, 9), 2);
        Check.due("fallen in 1", x.in(0, 1, 3), 2);
        Check.due("fallen in 2", x.in(0, 2, 3), 4);
    }

    private static void filledRotsNot() {
        YearSkins x = Check.told(land("1 births 0 fire 100 earns 0", ";house a at 4,4 of g family 1 gold 0;skin a g north 0 lock 0"
                + ";skin a w north 0 lock 0;skin a g north 0 lock 0"));
        x.years(1);
        Check.due("rot", x.skin(0, 1, 4), 2);
        Check.due("wood is burnt", x.skin(0, 2, 5), 1);
        x.fill(0, 1);
        x.fill(0, 3);
        Check.due("filled in time", x.falls(0, 1, 60), -2);
        Check.due("about the collapsed too", x.falls(0, 3, 60), -2);
        x.years(20);
        Check.due("rot", x.skin(0, 1, 4), 2);
        Check.due("filled still", x.skin(0, 1, 6), 1);
    }

    private static void collapsedRotsNot() {
        YearSkins x = Check.told(land("1 births 0 fire 100 earns 0", ";house a at 4,4 of g family 1 gold 0;skin a g north 0 lock 0;skin a w north 0 lock 0"));
        x.take(0);
        x.years(20);
        Check.due("taken", x.skin(0, 1, 4), 0);
        // Ahead of its fire it rots about what was taken.
        Check.due("burnt", x.skin(0, 2, 4), 1);
    }

    private static void woodAlone() {
        YearSkins x = Check.told(land("1 births 0 fire 100 earns 0", ";house a at 4,4 of f family 1 gold 0;house b at 0,0 of w family 0 gold 0"
                + ";skin a f north 0 lock 0;skin a w north 0 lock 0;skin a f north 0 lock 0"));
        x.years(1);
        int[] due = {0, 1, 0};
        for (int r = 1; r <= 3; r++) {
            Check.due("burnt " + r, x.skin(0, r, 5), due[r - 1]);
        }
        YearSkins y = Check.told(land("1 births 0 fire 100 earns 0", ";house a at 2,4 of w family 0 gold 0;house b at 6,4 of w family 1 gold 0"
                + ";skin a w north 0 lock 0;skin b w north 0 lock 0"));
        y.years(1);
        Check.due("another house's wood", y.skin(0, 1, 5), 0);
        Check.due("its own", y.skin(1, 1, 5), 1);
        YearSkins z = Check.told(land("1 births 0 fire 100 earns 0", ";house a at 4,4 of w family 1 gold 0;skin a w north 0 lock 0;skin a w north 0 lock 0"));
        z.fill(0, 2);
        z.years(1);
        Check.due("not filled", z.skin(0, 1, 5), 1);
        Check.due("filled", z.skin(0, 2, 5), 0);
    }

    private static void fireBehindRot() {
        YearSkins x = Check.told(land("1 births 0 fire 100 earns 0", ";house a at 4,4 of f family 1 gold 0;skin a w north 0 lock 0;skin a f north 0 lock 0"));
        x.years(1);
        Check.due("rots not by this year's fire", x.skin(0, 2, 4), 0);
        x.years(1);
        Check.due("but by last year's", x.skin(0, 2, 4), 2);
    }

    private static void justEnoughGold() {
        for (int skins = 0; skins <= 2; skins++) {
            StringBuilder told = new StringBuilder();
            for (int r = 1; r <= skins; r++) {
                told.append(";skin a f north ").append(r - 1).append(" lock 0");
            }
            int price = 3 * 8 * (skins + 1);
            for (int gold = price - 2; gold <= price; gold++) {
                YearSkins x = Check.told(land("1 births 0 fire 0 earns 1", ";house a at 4,4 of f family 1 gold " + gold + told));
                boolean enough = gold + 1 >= price;
                Check.due("skins by " + gold, x.in(0, 1, 0), enough ? skins + 1 : skins);
                Check.due("gold by " + gold, x.in(0, 1, 2), enough ? gold + 1 - price : gold + 1);
            }
        }
    }

    private static void oneSkinAYear() {
        YearSkins x = Check.told("land wide 12 high 12 doors near share no;years 7 births 0 fire 0 earns 0;stone s hard costs 1 warm 0 rots 0 strong 1"
                + ";house a at 6,6 of s family 12 gold 999");
        int gold = 999;
        for (int year = 1; year <= 5; year++) {
            gold -= 8 * year;
            Check.due("skins", x.years(1), year);
            Check.due("gold", x.house(0, 3), gold);
            Check.due("the year in which", x.skin(0, year, 7), 6 + year);
            Check.due("lock", x.skin(0, year, 3), 2);
            Check.due("no rot", x.skin(0, year, 4), 0);
        }
        // A sixth does not fit on 12 by 12.
        Check.due("no more", x.years(20), 5);
        Check.due("gold", x.house(0, 3), gold);
        Check.due("no more in 60", x.skinsIn(60), 5);
    }

    private static void lockByTheFamily() {
        int[][] rows = {{1, 0, 1}, {9, 0, 9}, {10, 0, 0}, {19, 0, 9}, {99, 0, 9}, {98, 100, 9}, {9, 100, 0}, {90, 100, 1}};
        for (int[] row : rows) {
            YearSkins x = Check.told(land("1 births " + row[1] + " fire 0 earns 0", ";house a at 4,4 of g family " + row[0] + " gold 8"));
            x.years(1);
            Check.due("lock by " + row[0], x.skin(0, 1, 3), row[2]);
        }
    }

    private static void noDoorNoGrowth() {
        String water = ";water 4,2;water 6,4;water 4,6";
        String rest = ";years 1 births 0 fire 0 earns 0;stone s hard costs 1 warm 0 rots 0 strong 9;house a at 4,4 of s family 1 gold 999";
        YearSkins x = Check.told("land wide 9 high 9 doors near share no" + water + rest);
        Check.due("the last door", x.years(1), 1);
        Check.due("side", x.skin(0, 1, 1), 3);
        Check.due("then water", x.years(1), 1);
        YearSkins y = Check.told("land wide 9 high 9 doors near share no" + water + ";water 2,4" + rest);
        Check.due("no door", y.years(20), 0);
        Check.due("nothing is paid", y.house(0, 3), 999);
        YearSkins z = Check.told("land wide 9 high 9 doors near share no;water 3,3" + rest);
        Check.due("it doesn't fit", z.years(20), 0);
        Check.due("nothing is paid", z.house(0, 3), 999);
    }

    private static void stoneOfItsHouse() {
        YearSkins x = Check.told(land("1 births 0 fire 0 earns 0", ";house a at 4,4 of w family 1 gold 500;skin a g north 0 lock 0"));
        x.years(1);
        Check.due("stone", x.skin(0, 2, 0), 2);
        Check.due("gold", x.house(0, 3), 500 - 9 * 16);
    }

    private static void growsAboutTheCollapsed() {
        YearSkins x = Check.told(land("1 births 0 fire 0 earns 0", ";house a at 4,4 of g family 1 gold 0;skin a g east 0 lock 0"));
        x.take(0);
        Check.due("the door is as if it stood", x.door(0), 101);
        Check.due("too little gold", x.years(1), 1);
        YearSkins y = Check.told(land("1 births 0 fire 0 earns 0", ";house a at 4,4 of g family 1 gold 12;skin a g east 0 lock 0"));
        y.take(0);
        y.years(1);
        Check.due("skins", y.house(0, 1), 2);
        Check.due("gold", y.house(0, 3), 0);
        Check.due("side", y.skin(0, 2, 1), 1);
        Check.due("place", y.skin(0, 2, 2), 1);
    }

    private static void growsBehindTheFire() {
        YearSkins x = Check.told(land("1 births 0 fire 100 earns 0", ";house a at 4,4 of w family 1 gold 72"));
        x.years(1);
        Check.due("grown", x.house(0, 1), 1);
        Check.due("not burnt yet", x.skin(0, 1, 5), 0);
        x.years(1);
        Check.due("burnt", x.skin(0, 1, 5), 1);
    }

    /** Two houses want the same CELLS: the first by numbers has them, and the other grows no more. */
    private static void houseByHouse() {
        String rest = ";years 1 births 0 fire 0 earns 0;stone s hard costs 1 warm 0 rots 0 strong 9"
                + ";house a at 2,4 of s family 1 gold 99;house b at 4,4 of s family 1 gold 99";
        YearSkins x = Check.told("land wide 9 high 9 doors near share no" + rest);
        x.years(1);
        Check.due("a grows", x.house(0, 1), 1);
        Check.due("b doesn't", x.house(1, 1), 0);
        // By share yes both may, and b's door is not towards a.
        YearSkins y = Check.told("land wide 9 high 9 doors near share yes" + rest);
        y.years(1);
        Check.due("a grows", y.house(0, 1), 1);
        Check.due("b too", y.house(1, 1), 1);
        Check.due("shared", y.shared(), 3);
    }

    private static void inFrom0To60() {
        YearSkins x = Check.told(land("900 births 100 fire 0 earns 1", ";house a at 0,0 of g family 1 gold 5"));
        Check.fine(x, "in 0", x.in(0, 0, 1), 1);
        Check.fine(x, "in 60", x.in(0, 60, 1), 61);
        Check.refused(x, "in 61", x.in(0, 61, 1), 2);
        Check.refused(x, "in -1", x.in(0, -1, 1), 2);
        Check.fine(x, "heads in 0", x.heads(0, 0), 1);
        Check.fine(x, "heads in 60", x.heads(0, 60), 61);
        Check.refused(x, "heads in 61", x.heads(0, 61), 2);
        Check.fine(x, "skinsIn 0", x.skinsIn(0), 0);
        Check.fine(x, "skinsIn 60", x.skinsIn(60), 0);
        Check.refused(x, "skinsIn 61", x.skinsIn(61), 2);
        // IN counts from NOW on.
        x.years(20);
        Check.fine(x, "in 0", x.in(0, 0, 1), 21);
        Check.fine(x, "in 60", x.in(0, 60, 1), 81);
    }

    private static void whatOfIn() {
        YearSkins x = Check.told(land("1 births 100 fire 100 earns 1", ";house a at 4,4 of w family 3 gold 141;skin a w north 0 lock 0"));
        // In a year: gold 144, family 4, SKIN 1 burnt, SKIN 2 for 144; its front at 4, 1 is free.
        int[] due = {2, 4, 0, 1, 0};
        int[] before = {1, 3, 141, 0, 0};
        for (int what = 0; what <= 4; what++) {
            Check.fine(x, "in 0 what " + what, x.in(0, 0, what), before[what]);
            Check.fine(x, "in 1 what " + what, x.in(0, 1, what), due[what]);
        }
        Check.refused(x, "what 5", x.in(0, 1, 5), 1);
        Check.refused(x, "what -1", x.in(0, 1, -1), 1);
        Check.refused(x, "house 1", x.in(1, 1, 0), 1);
        Check.refused(x, "house -1", x.in(-1, 1, 0), 1);
    }

    private static void shutIn() {
        YearSkins x = Check.told(land("1 births 0 fire 0 earns 0", ";house a at 2,4 of g family 0 gold 0;house b at 5,4 of g family 1 gold 8"
                + ";skin a g east 0 lock 0"));
        Check.fine(x, "not now", x.in(0, 0, 4), 0);
        Check.fine(x, "in a year", x.in(0, 1, 4), 1);
        Check.due("not now", x.house(0, 5), 0);
        Check.due("none is led", Check.led(x, 0), -1);
        x.years(1);
        Check.due("now", x.house(0, 5), 1);
        Check.due("led", Check.led(x, 0), 0);
    }

    private static void meeting() {
        // House a grows by one SKIN in its second, fourth and seventh year: 8, 16, 24 of gold by 4 a year.
        String houses = ";house a at 4,4 of g family 4 gold 0;house b at 4,0 of g family 0 gold 0;house c at 4,8 of g family 0 gold 0;house d at 0,0 of g family 0 gold 0";
        YearSkins x = Check.told(land("1 births 0 fire 0 earns 1", houses));
        Check.due("one skin", x.in(0, 2, 0), 1);
        Check.due("two skins", x.in(0, 5, 0), 1);
        Check.due("two skins", x.in(0, 6, 0), 2);
        Check.due("three skins", x.in(0, 11, 0), 2);
        Check.due("three skins", x.in(0, 12, 0), 3);
        Check.fine(x, "they meet", x.meet(0, 1, 60), 12);
        Check.fine(x, "in just as many", x.meet(0, 1, 12), 12);
        Check.fine(x, "not in one less", x.meet(0, 1, 11), -2);
        Check.fine(x, "others stay apart", x.meet(1, 2, 60), -2);
        Check.fine(x, "corner to corner", x.meet(3, 0, 60), -2);
        Check.fine(x, "in 0", x.meet(0, 1, 0), -2);
        x.years(12);
        Check.fine(x, "now", x.meet(1, 0, 0), 0);
        // By share yes they meet by what they share.
        YearSkins y = Check.told("land wide 9 high 9 doors near share yes;years 1 births 0 fire 0 earns 0;stone s hard costs 1 warm 0 rots 0 strong 9"
                + ";house a at 3,4 of s family 0 gold 0;house b at 5,4 of s family 0 gold 0;skin a s north 0 lock 0;skin b s north 0 lock 0");
        Check.due("shared", y.shared(), 3);
        Check.fine(y, "shared", y.meet(0, 1, 0), 0);
    }

    private static void meetingByCorners() {
        for (int cell = 0; cell < 81; cell++) {
            int east = Math.abs(cell % 9 - 4);
            int south = Math.abs(cell / 9 - 4);
            if (Math.max(east, south) > 1) {
                YearSkins x = Check.told(land("1 births 0 fire 0 earns 0", ";house a at 4,4 of g family 0 gold 0;skin a g north 0 lock 0;house b at "
                        + cell % 9 + "," + cell / 9 + " of g family 0 gold 0"));
                boolean beside = east == 2 && south <= 1 || south == 2 && east <= 1;
                Check.due("core at " + east + ", " + south, x.meet(0, 1, 9), beside ? 0 : -2);
            }
        }
    }

    private static void falling() {
        YearSkins x = Check.told(land("1 births 0 fire 0 earns 9", ";house a at 4,4 of g family 9 gold 0;skin a g north 0 lock 0"));
        Check.fine(x, "in just as many", x.falls(0, 1, 3), 3);
        Check.fine(x, "not in one less", x.falls(0, 1, 2), -2);
        Check.fine(x, "not in 0", x.falls(0, 1, 0), -2);
        Check.fine(x, "in 60", x.falls(0, 1, 60), 3);
        Check.due("there will be a second", x.in(0, 1, 0), 2);
        Check.refused(x, "but not now", x.falls(0, 2, 60), 1);
        x.years(3);
        Check.fine(x, "behind 0 years", x.falls(0, 1, 0), 0);
        Check.fine(x, "now there is", x.falls(0, 2, 0), 0);
        Check.fine(x, "and a third that stands", x.falls(0, 3, 0), -2);
    }

    private static void room() {
        String rest = ";years 1 births 0 fire 0 earns 0;stone s hard costs 9 warm 0 rots 0 strong 9;house a at ";
        int[][] rows = {{12, 12, 6, 6, 5}, {12, 12, 5, 5, 5}, {11, 11, 5, 5, 4}, {12, 11, 6, 5, 5}, {11, 12, 5, 6, 5}, {3, 3, 1, 1, 0}, {4, 3, 1, 1, 1}, {12, 12, 0, 6, 0},
            {12, 12, 1, 6, 1}, {12, 12, 10, 6, 1}, {12, 12, 11, 6, 0}, {12, 12, 6, 2, 2}, {12, 12, 6, 9, 2}, {5, 5, 2, 2, 1}};
        for (int[] row : rows) {
            String text = "land wide " + row[0] + " high " + row[1] + " doors near share no" + rest + row[2] + "," + row[3] + " of s family 0 gold 0";
            YearSkins x = Check.told(text);
            Check.fine(x, "room of " + text, x.room(0), row[4]);
        }
        // Others are as they are, though they would grow.
        YearSkins z = Check.told("land wide 12 high 12 doors near share no" + rest + "5,5 of s family 9 gold 999;house b at 10,5 of s family 9 gold 999");
        Check.due("a", z.room(0), 4);
        Check.due("b", z.room(1), 1);
        YearSkins y = Check.told("land wide 12 high 12 doors near share no" + rest + "5,5 of s family 9 gold 999;house b at 10,5 of s family 9 gold 999"
                + ";skin b s north 0 lock 0;skin a s north 0 lock 0");
        Check.due("a", y.room(0), 2);
        Check.due("b", y.room(1), 0);
    }

    private static void first() {
        YearSkins x = Check.told("land wide 7 high 5 doors near share no;years 1 births 0 fire 0 earns 9;stone g hard costs 1 warm 0 rots 0 strong 99"
                + ";house a at 3,2 of g family 9 gold 99;house b at 1,2 of g family 9 gold 99;house c at 5,2 of g family 9 gold 99");
        Check.fine(x, "in 0", x.first(0), 0);
        Check.fine(x, "in 30", x.first(30), 2);
        Check.refused(x, "in 31", x.first(31), 2);
        Check.refused(x, "in -1", x.first(-1), 2);
        int[] numbers = {0, 1, 2};
        int[] best = {1, 0, 2};
        for (int i = 0; i < 3; i++) {
            Check.fine(x, "of like ones the first by numbers", x.firstAt(0, i), numbers[i]);
            Check.fine(x, "in 1", x.firstAt(1, i), best[i]);
            Check.fine(x, "in 30", x.firstAt(30, i), best[i]);
        }
        Check.refused(x, "3", x.firstAt(0, 3), 1);
        Check.refused(x, "-1", x.firstAt(0, -1), 1);
        Check.refused(x, "in 31", x.firstAt(31, 2), 2);
        Check.refused(x, "in -1", x.firstAt(-1, 2), 2);
        YearSkins one = Check.told(land("1 births 0 fire 0 earns 0", ";house a at 4,4 of g family 1 gold 99"));
        Check.fine(one, "one house", one.first(1), 1);
        Check.fine(one, "one house", one.firstAt(1, 0), 0);
        Check.refused(one, "no second", one.firstAt(1, 1), 1);
        // The last of four must grow first: it lies about the room of none of the others.
        YearSkins four = Check.told("land wide 12 high 5 doors near share no;years 1 births 0 fire 0 earns 9;stone g hard costs 1 warm 0 rots 0 strong 99"
                + ";house a at 3,2 of g family 9 gold 99;house b at 8,2 of g family 9 gold 99;house c at 10,2 of g family 9 gold 99;house d at 1,2 of g family 9 gold 99");
        Check.due("by numbers", four.skinsIn(1), 2);
        Check.fine(four, "in any order", four.first(1), 2);
        for (int i = 0; i < 4; i++) {
            Check.fine(four, "by numbers", four.firstAt(1, i), i);
        }
    }

    private static void heads() {
        YearSkins x = Check.told(land("1 births 50 fire 50 earns 0", ";house a at 0,0 of g family 3 gold 0;house b at 8,8 of g family 0 gold 0"));
        Check.fine(x, "seed 0", x.heads(0, 0), 3);
        Check.fine(x, "seed 65536: 36 in each draw", x.heads(65536, 60), 63);
        Check.refused(x, "seed 65537", x.heads(65537, 0), 2);
        Check.refused(x, "seed -1", x.heads(-1, 0), 2);
        Check.due("seed 0: 74 is not below 50", x.heads(0, 1), 3);
        Check.due("seed 873: 12 is", x.heads(873, 1), 4);
    }

    private static void takesAndWorth() {
        String text = land("1 births 0 fire 0 earns 0", ";house a at 4,4 of g family 0 gold 0;house b at 0,0 of g family 0 gold 0"
                + ";skin a g north 0 lock 0;skin a f north 0 lock 0;skin a w north 0 lock 0");
        YearSkins x = Check.told(text);
        Check.fine(x, "takes", x.takes(0), 4);
        Check.fine(x, "worth", x.worth(0), 4 + 24);
        Check.fine(x, "no skin stands", x.takes(1), -2);
        Check.fine(x, "no skin", x.worth(1), 0);
        x.fill(0, 1);
        Check.fine(x, "filled or not", x.takes(0), 4);
        Check.fine(x, "filled or not", x.worth(0), 28);
        int[] takes = {24, 108, -2};
        int[] worth = {24, 0, 0};
        int[] gold = {4, 28, 136};
        for (int i = 0; i < 3; i++) {
            x.take(0);
            Check.due("gold", x.house(0, 3), gold[i]);
            Check.fine(x, "takes the next", x.takes(0), takes[i]);
            Check.fine(x, "worth of the rest, not the outermost", x.worth(0), worth[i]);
        }
        int[] byHeir = {28, 0, 4, 28};
        for (int r = 0; r <= 3; r++) {
            YearSkins y = Check.told(text + ";heir h a " + r + ";heir i b 0");
            Check.fine(y, "worth up to an heir in " + r, y.worth(0), byHeir[r]);
            Check.fine(y, "takes tells of no heirs", y.takes(0), 4);
        }
        // An heir in what is COLLAPSED stops nothing.
        YearSkins z = Check.told(text.replace("a at 4,4 of g family 0", "a at 4,4 of g family 1") + ";heir h a 1");
        Check.fine(z, "he lives in the first", z.worth(0), 0);
        z.years(3);
        Check.due("collapsed", z.skin(0, 1, 5), 1);
        Check.fine(z, "it doesn't stand", z.worth(0), 24);
        YearSkins one = Check.told(land("1 births 0 fire 0 earns 0", ";house a at 4,4 of g family 0 gold 0;skin a g north 0 lock 0"));
        Check.fine(one, "the outermost can be taken", one.takes(0), 4);
        Check.fine(one, "but has no worth", one.worth(0), 0);
    }

    private static String walls(int year, String rest) {
        return "land wide 5 high 5 doors near share no;years " + year + " births 0 fire 0 earns 0"
                + ";stone s hard costs 1 warm 1 rots 0 strong 9;house h at 2,2 of s family 0 gold 0" + rest;
    }

    /** Years are 0 up to NOW less 1, each above the one ahead: as many WALLS as years can be, not one more. */
    private static void ordersByYears() {
        int[] rows = {1, 1, 2, 6, 24, 120, 720};
        StringBuilder text = new StringBuilder();
        for (int n = 0; n <= 6; n++) {
            YearSkins x = Check.told(walls(n, text.toString()));
            Check.fine(x, n + " walls by year " + n, x.orders(), rows[n]);
            for (int w = 0; w < n; w++) {
                Check.fine(x, "soonest", x.soonest(w), 0);
                Check.fine(x, "latest", x.latest(w), n - 1);
                Check.fine(x, "the first order", x.order(0, w), w);
                Check.fine(x, "the last order", x.order(rows[n] - 1, w), n - 1 - w);
            }
            Check.refused(x, "one order more", x.order(rows[n], 0), 1);
            if (n > 0) {
                YearSkins y = Check.told(walls(n - 1, text.toString()));
                Check.fine(y, n + " walls by year " + (n - 1), y.orders(), 0);
                Check.fine(y, "soonest", y.soonest(0), -2);
                Check.fine(y, "latest", y.latest(0), -2);
                y.years(1);
                Check.fine(y, "a year later", y.orders(), rows[n]);
            }
            text.append(";wall w").append((char) ('a' + n));
        }
        int[][] signs = {{9, 10, 1}, {9, 9, 0}, {0, 1, 1}, {0, 0, 0}};
        for (int[] sign : signs) {
            YearSkins x = Check.told(walls(100, ";wall w;coin w " + sign[0] + ";smell w " + sign[1]));
            Check.fine(x, "coin " + sign[0] + " smell " + sign[1], x.orders(), sign[2]);
            Check.fine(x, "from a coin's year on", x.soonest(0), sign[2] == 1 ? sign[0] : -2);
            Check.fine(x, "ahead of a smell's", x.latest(0), sign[2] == 1 ? sign[1] - 1 : -2);
        }
        Check.due("coin of 99 by year 100", Check.told(walls(100, ";wall w;coin w 99")).soonest(0), 99);
        Check.due("coin of 100 by year 100", Check.told(walls(100, ";wall w;coin w 100")).orders(), 0);
        Check.due("smell of 100 by year 100", Check.told(walls(100, ";wall w;smell w 100")).latest(0), 99);
        Check.due("smell of 999 by year 100", Check.told(walls(100, ";wall w;smell w 999")).latest(0), 99);
    }

    private static void noOrders() {
        YearSkins x = Check.told(walls(9, ";wall p;wall q;wall r;older p q;older q r;older r p"));
        Check.fine(x, "orders", x.orders(), 0);
        for (int w = 0; w < 3; w++) {
            Check.fine(x, "soonest", x.soonest(w), -2);
            Check.fine(x, "latest", x.latest(w), -2);
            Check.fine(x, "surely", x.surely(w, (w + 1) % 3), 0);
            Check.refused(x, "order", x.order(0, w), 1);
            Check.refused(x, "unlike", x.surely(w, w), 1);
        }
        YearSkins y = Check.told(walls(9, ";wall p;wall q;older q p"));
        Check.fine(y, "surely", y.surely(1, 0), 1);
        Check.fine(y, "not the other way", y.surely(0, 1), 0);
    }

    private static void yearsFrom1To20() {
        for (int n : new int[] {1, 2, 19, 20}) {
            YearSkins x = Check.told(land("5 births 100 fire 0 earns 1", ";house a at 4,4 of g family 1 gold 0"));
            int skins = x.skinsIn(n);
            int family = x.in(0, n, 1);
            Check.fine(x, "years " + n, x.years(n), skins);
            Check.due("year", x.size(8), 5 + n);
            Check.due("family", x.house(0, 2), family);
            Check.due("one ACT", x.size(10), 1);
            Check.fine(x, "undo", x.undo());
            Check.due("year", x.size(8), 5);
        }
    }

    private static void upToYear999() {
        YearSkins x = Check.told(land("900 births 0 fire 0 earns 0", ";house a at 4,4 of g family 1 gold 0"));
        for (int i = 0; i < 4; i++) {
            x.years(20);
        }
        Check.due("980", x.size(8), 980);
        Check.refused(x, "to 1000", x.years(20), 3);
        Check.due("980 still", x.size(8), 980);
        Check.fine(x, "to 999", x.years(19), 0);
        Check.due("999", x.size(8), 999);
        for (int n = 1; n <= 20; n++) {
            Check.refused(x, "beyond 999", x.years(n), 3);
        }
        Check.refused(x, "0", x.years(0), 2);
        Check.refused(x, "21", x.years(21), 2);
        Check.due("999 still", x.size(8), 999);
        // What will be goes on.
        Check.fine(x, "in 60", x.skinsIn(60), 0);
    }
}
