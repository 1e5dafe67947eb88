/** Promises 21 to 30: what will be, and what is worth taking. */
public final class FutureTest {
    public static void main(String[] args) {
        earning();
        draws();
        rotting();
        fires();
        growing();
        meeting();
        whoGrowsFirst();
        heads();
        taking();
        bounds();
        Check.end();
    }

    private static String land(String years, String rest) {
        return "land wide 9 high 9 doors near share no;years " + years
                + ";stone g hard costs 1 warm 3 rots 2 strong 5;stone f soft costs 3 warm 2 rots 0 strong 9"
                + ";stone w wood costs 9 warm 1 rots 0 strong 99" + rest;
    }

    private static void earning() {
        YearSkins x = Check.told(land("900 births 100 fire 0 earns 3", ";water 0,0;water 2,2;house a at 1,1 of g family 97 gold 0"
                + ";house b at 8,8 of g family 0 gold 7"));
        Check.fine(x, "gold in 0", x.in(0, 0, 2), 0);
        Check.fine(x, "gold in 1", x.in(0, 1, 2), 291);
        Check.fine(x, "gold in 3", x.in(0, 3, 2), 291 + 294 + 297);
        Check.fine(x, "gold is 999 at most", x.in(0, 4, 2), 999);
        Check.fine(x, "family in 1", x.in(0, 1, 1), 98);
        Check.fine(x, "family is 99 at most", x.in(0, 60, 1), 99);
        Check.fine(x, "no family, no gold", x.in(1, 60, 2), 7);
        Check.fine(x, "no family, no births", x.in(1, 60, 1), 0);
        Check.fine(x, "no skins", x.in(0, 60, 0), 0);
        Check.due("now is as it was", x.house(0, 3), 0);
        Check.due("seed is as it was", x.size(9), 0);
        Check.due("year is as it was", x.size(8), 900);
    }

    /** By births 75 (fire 0): the draws of SEED 0 are 74, 5624, 28664 .. : two a house a year. */
    private static void draws() {
        int[] draws = new int[20];
        long seed = 0;
        for (int i = 0; i < draws.length; i++) {
            seed = (75 * seed + 74) % 65537;
            draws[i] = (int) seed;
        }
        Check.due("first draw", draws[0], 74);
        for (int births = 0; births <= 100; births += 25) {
            YearSkins x = Check.told(land("1 births " + births + " fire 0 earns 0", ";house a at 1,1 of g family 3 gold 0"
                    + ";house b at 8,8 of g family 4 gold 0"));
            int a = 3;
            int b = 4;
            for (int t = 1; t <= 5; t++) {
                a += draws[4 * t - 4] % 100 < births ? 1 : 0;
                b += draws[4 * t - 2] % 100 < births ? 1 : 0;
                Check.fine(x, "family a", x.in(0, t, 1), a);
                Check.fine(x, "family b", x.in(1, t, 1), b);
                Check.fine(x, "all heads", x.heads(0, t), a + b);
            }
            Check.due("years", x.years(5), 0);
            Check.due("seed", x.size(9), draws[19]);
        }
        // A house without a family draws nothing.
        YearSkins y = Check.told(land("1 births 50 fire 50 earns 0", ";house a at 1,1 of g family 0 gold 0"
                + ";house b at 8,8 of g family 4 gold 0"));
        y.years(1);
        Check.due("two draws", y.size(9), draws[1]);
        Check.due("family", y.house(1, 2), 4 + (draws[0] % 100 < 50 ? 1 : 0));
    }

    private static void rotting() {
        YearSkins x = Check.told(land("1 births 0 fire 0 earns 0", ";house a at 4,4 of g family 1 gold 0"
                + ";skin a g north 0 lock 0;skin a f north 0 lock 0;skin a g north 0 lock 0;skin a w north 0 lock 0"));
        // SKIN 1: 2, 4, 6 of 5. SKIN 2 from then on by 2: 2, 4, 6, 8, 10 of 9 in the seventh year.
        Check.fine(x, "1 falls", x.falls(0, 1, 60), 3);
        Check.fine(x, "1 doesn't in 2", x.falls(0, 1, 2), -2);
        Check.fine(x, "2 falls", x.falls(0, 2, 60), 7);
        Check.fine(x, "3 falls by itself", x.falls(0, 3, 60), 3);
        // SKIN 4 of wood rots by 1 a year from the third on: 58 of 99 in 60.
        Check.fine(x, "4 doesn't", x.falls(0, 4, 60), -2);
        Check.fine(x, "fallen in 3", x.in(0, 3, 3), 2);
        Check.fine(x, "fallen in 7", x.in(0, 7, 3), 3);
        x.years(7);
        Check.due("rot of 1", x.skin(0, 1, 4), 6);
        Check.due("rot of 2", x.skin(0, 2, 4), 10);
        Check.due("rot of 4", x.skin(0, 4, 4), 5);
        Check.due("2 collapsed", x.skin(0, 2, 5), 1);
        Check.due("4 stands", x.skin(0, 4, 5), 0);
        Check.fine(x, "falls at once", x.falls(0, 2, 0), 0);
        // Through the wall: strong 99 less rot 5; its lock is less.
        x.lock(0, 4, 98);
        Check.due("strong less rot", x.through(0, 4), 94);
        // What is filled rots no more; without a family nothing rots.
        YearSkins y = Check.told(land("1 births 0 fire 100 earns 0", ";house a at 4,4 of g family 1 gold 0;house b at 0,0 of g family 0 gold 0"
                + ";skin a g north 0 lock 0;skin a w north 0 lock 0"));
        y.fill(0, 1);
        y.fill(0, 2);
        Check.due("filled stays", y.in(0, 60, 3), 0);
        YearSkins z = Check.told(land("1 births 0 fire 100 earns 0", ";house a at 4,4 of g family 0 gold 0"
                + ";skin a g north 0 lock 0;skin a w north 0 lock 0"));
        Check.due("left alone", z.in(0, 60, 3), 0);
        Check.refused(z, "falls of no skin", z.falls(0, 3, 5), 1);
        Check.refused(z, "falls of the core", z.falls(0, 0, 5), 1);
        Check.refused(z, "falls in 61", z.falls(0, 1, 61), 2);
        Check.refused(z, "falls in -1", z.falls(0, 1, -1), 2);
    }

    private static void fires() {
        YearSkins x = Check.told(land("1 births 0 fire 100 earns 0", ";house a at 4,4 of g family 1 gold 0"
                + ";skin a f north 0 lock 0;skin a w north 0 lock 0;skin a f north 0 lock 0"));
        Check.due("wood burns", x.falls(0, 2, 9), 1);
        // Rot comes ahead of fire, so that SKIN 3 rots from the second year on, soft by 2: 9 or more in the sixth.
        Check.due("soft about it", x.falls(0, 3, 60), 6);
        Check.due("soft within", x.falls(0, 1, 60), -2);
        int[] draws = new int[10];
        long seed = 0;
        for (int i = 0; i < draws.length; i++) {
            seed = (75 * seed + 74) % 65537;
            draws[i] = (int) seed;
        }
        for (int fire = 0; fire <= 100; fire += 10) {
            YearSkins y = Check.told(land("1 births 0 fire " + fire + " earns 0", ";house a at 4,4 of g family 1 gold 0;skin a w north 0 lock 0"));
            int due = -2;
            for (int t = 1; t <= 5 && due < 0; t++) {
                due = draws[2 * t - 1] % 100 < fire ? t : -2;
            }
            Check.due("fire " + fire, y.falls(0, 1, 5), due);
        }
    }

    private static void growing() {
        YearSkins x = Check.told(land("10 births 100 fire 0 earns 1", ";house a at 4,4 of g family 3 gold 2"));
        // Gold: 5; 9 less 8: 1 (family 5); 6; 12; 19 less 16: 3 ..
        Check.due("skins in 1", x.in(0, 1, 0), 0);
        Check.due("skins in 2", x.in(0, 2, 0), 1);
        Check.due("gold in 2", x.in(0, 2, 2), 1);
        Check.due("skins in 4", x.in(0, 4, 0), 1);
        Check.due("skins in 5", x.in(0, 5, 0), 2);
        Check.due("gold in 5", x.in(0, 5, 2), 3);
        Check.due("all skins", x.skinsIn(5), 2);
        Check.due("years", x.years(5), 2);
        Check.due("lock is the family mod 10", x.skin(0, 1, 3), 5);
        Check.due("built in the year ahead", x.skin(0, 1, 7), 11);
        Check.due("built", x.skin(0, 2, 7), 14);
        Check.due("stone", x.skin(0, 2, 0), 0);
        Check.due("side", x.skin(0, 2, 1), 0);
        Check.due("place", x.skin(0, 2, 2), 1);
        Check.due("lock", x.skin(0, 2, 3), 8);
        Check.due("year", x.size(8), 15);
        Check.due("most skins of this land", x.skinsIn(60), 3);
        Check.due("shut in 0", x.in(0, 0, 4), 0);
        // SKIN 4 would have no door on a land 9 wide.
        Check.due("shut in 60", x.in(0, 60, 4), 0);
        YearSkins just = Check.told(land("1 births 0 fire 0 earns 1", ";house a at 4,4 of g family 1 gold 7"));
        Check.due("just enough", just.in(0, 1, 0), 1);
        Check.due("all of it is paid", just.in(0, 1, 2), 0);
        YearSkins poor = Check.told(land("1 births 0 fire 0 earns 1", ";house a at 4,4 of g family 1 gold 6"));
        Check.due("one too few", poor.in(0, 1, 0), 0);
    }

    private static void meeting() {
        String two = ";house a at 2,4 of g family 9 gold 0;house b at 6,4 of g family 9 gold 0";
        YearSkins x = Check.told(land("1 births 0 fire 0 earns 9", two));
        Check.fine(x, "not yet", x.meet(0, 1, 0), -2);
        // The first year both grow one, in the next one a has 0 .. 4, beside 5 .. 7 of b.
        Check.due("skins in 1", x.skinsIn(1), 2);
        int met = x.meet(0, 1, 60);
        Check.due("they meet", met, 2);
        Check.due("both ways", x.meet(1, 0, 60), met);
        Check.due("not in less", x.meet(0, 1, met - 1), -2);
        Check.refused(x, "unlike", x.meet(1, 1, 61), 1);
        Check.refused(x, "none such", x.meet(0, 2, 0), 1);
        Check.refused(x, "none such", x.meet(-1, 1, 0), 1);
        Check.refused(x, "in 61", x.meet(0, 1, 61), 2);
        Check.refused(x, "in -1", x.meet(0, 1, -1), 2);
        YearSkins y = Check.told(land("1 births 0 fire 0 earns 0", ";house a at 1,1 of g family 0 gold 0;house b at 2,2 of g family 0 gold 0"
                + ";house c at 2,3 of g family 0 gold 0;house d at 4,2 of g family 0 gold 0"));
        Check.due("corner to corner", y.meet(0, 1, 5), -2);
        Check.due("side by side", y.meet(1, 2, 5), 0);
        Check.due("one between", y.meet(1, 3, 5), -2);
    }

    /** House a between two others takes the room of both if it grows first. */
    private static void whoGrowsFirst() {
        String row = "land wide 7 high 5 doors near share no;years 1 births 0 fire 0 earns 9;stone g hard costs 1 warm 0 rots 0 strong 99";
        YearSkins x = Check.told(row + ";house a at 3,2 of g family 9 gold 99;house b at 1,2 of g family 9 gold 99;house c at 5,2 of g family 9 gold 99");
        Check.fine(x, "by numbers", x.skinsIn(1), 1);
        Check.fine(x, "first", x.first(1), 2);
        Check.fine(x, "first 0", x.firstAt(1, 0), 1);
        Check.fine(x, "first 1", x.firstAt(1, 1), 0);
        Check.fine(x, "first 2", x.firstAt(1, 2), 2);
        Check.fine(x, "in 0", x.first(0), 0);
        Check.fine(x, "in 0 by numbers", x.firstAt(0, 1), 1);
        Check.refused(x, "in 31", x.first(31), 2);
        Check.refused(x, "in -1", x.first(-1), 2);
        Check.refused(x, "i", x.firstAt(31, 3), 1);
        Check.refused(x, "i", x.firstAt(0, -1), 1);
        Check.refused(x, "in 31", x.firstAt(31, 0), 2);
        Check.fine(x, "in 30", x.first(30), 2);
        Check.fine(x, "in 30", x.firstAt(30, 0), 1);
    }

    private static void heads() {
        YearSkins x = Check.told(land("1 births 50 fire 50 earns 0", ";house a at 1,1 of g family 3 gold 0;house b at 8,8 of g family 4 gold 0"));
        for (int seed = 0; seed <= 65536; seed += 8192) {
            int now = x.heads(seed, 9);
            Check.due("trouble", x.trouble(), 0);
            YearSkins y = Check.told(land("1 births 50 fire 50 earns 0", ";house a at 1,1 of g family 3 gold 0;house b at 8,8 of g family 4 gold 0"));
            y.seed(seed);
            y.years(9);
            Check.due("heads by a seed", now, y.house(0, 2) + y.house(1, 2));
        }
        Check.due("seed stays", x.size(9), 0);
        Check.refused(x, "seed", x.heads(65537, 0), 2);
        Check.refused(x, "seed", x.heads(-1, 0), 2);
        Check.refused(x, "in 61", x.heads(0, 61), 2);
        Check.refused(x, "in -1", x.heads(0, -1), 2);
        Check.fine(x, "in 60", x.heads(65536, 0), 7);
    }

    private static void taking() {
        YearSkins x = Check.told(land("1 births 0 fire 0 earns 0", ";house a at 4,4 of g family 1 gold 990;house b at 0,0 of g family 0 gold 0"
                + ";skin a g north 0 lock 0;skin a f north 0 lock 0;skin a w north 0 lock 0;heir h a 0;heir i a 3"));
        Check.fine(x, "takes", x.takes(0), 4);
        Check.fine(x, "takes of a core alone", x.takes(1), -2);
        Check.refused(x, "takes of none", x.takes(2), 1);
        Check.fine(x, "worth", x.worth(0), 4 + 24);
        Check.fine(x, "worth of a core alone", x.worth(1), 0);
        Check.refused(x, "worth of none", x.worth(-1), 1);
        x.move(0, 2);
        Check.fine(x, "worth up to the heir", x.worth(0), 4);
        x.move(0, 1);
        Check.fine(x, "worth with an heir inmost", x.worth(0), 0);
        Check.refused(x, "take", x.take(0), 5);
        x.years(3);
        Check.due("1 has collapsed", x.skin(0, 1, 5), 1);
        Check.fine(x, "takes the inmost that stands", x.takes(0), 24);
        Check.fine(x, "worth of what stands", x.worth(0), 24);
        Check.fine(x, "take", x.take(0), 24);
        Check.due("999 at most", x.house(0, 3), 999);
        Check.fine(x, "the outermost can be taken too", x.takes(0), 108);
        Check.refused(x, "but an heir lives there", x.take(0), 5);
        x.move(1, 0);
        Check.fine(x, "take", x.take(0), 108);
        Check.refused(x, "none stands", x.take(0), 6);
        Check.fine(x, "takes none", x.takes(0), -2);
        Check.refused(x, "take of none", x.take(2), 1);
    }

    private static void bounds() {
        YearSkins x = Check.told(land("1 births 0 fire 0 earns 0", ";house a at 4,4 of g family 1 gold 0;skin a g north 0 lock 0"));
        Check.refused(x, "in what", x.in(0, 0, 5), 1);
        Check.refused(x, "in what", x.in(0, 99, -1), 1);
        Check.refused(x, "in house", x.in(1, 99, 0), 1);
        Check.refused(x, "in 61", x.in(0, 61, 0), 2);
        Check.refused(x, "in -1", x.in(0, -1, 0), 2);
        Check.refused(x, "skinsIn 61", x.skinsIn(61), 2);
        Check.refused(x, "skinsIn -1", x.skinsIn(-1), 2);
        Check.fine(x, "skinsIn 60", x.skinsIn(60), 1);
    }
}
