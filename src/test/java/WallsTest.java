/** Promises 31 to 35: in how many orders WALLS can have been built, and when. */
public final class WallsTest {
    public static void main(String[] args) {
        noWalls();
        free();
        older();
        years();
        now();
        circle();
        Check.end();
    }

    private static YearSkins walls(int year, String rest) {
        return Check.told("land wide 5 high 5 doors near share no;years " + year + " births 0 fire 0 earns 0"
                + ";stone s hard costs 1 warm 1 rots 0 strong 9;house h at 2,2 of s family 0 gold 0" + rest);
    }

    private static void noWalls() {
        YearSkins x = walls(0, "");
        Check.fine(x, "one order of none", x.orders(), 1);
        Check.refused(x, "order", x.order(0, 0), 1);
        Check.refused(x, "soonest", x.soonest(0), 1);
        Check.refused(x, "latest", x.latest(0), 1);
        Check.refused(x, "surely", x.surely(0, 1), 1);
    }

    private static void free() {
        YearSkins x = walls(6, ";wall a;wall b;wall c;wall d;wall e;wall f");
        Check.fine(x, "orders", x.orders(), 720);
        int[][] rows = {{0, 1, 2, 3, 4, 5}, {0, 1, 2, 3, 5, 4}, {0, 1, 2, 4, 3, 5}};
        for (int i = 0; i < rows.length; i++) {
            for (int n = 0; n < 6; n++) {
                Check.fine(x, "order", x.order(i, n), rows[i][n]);
            }
        }
        for (int n = 0; n < 6; n++) {
            Check.fine(x, "last order", x.order(719, n), 5 - n);
        }
        Check.refused(x, "order 720", x.order(720, 0), 1);
        Check.refused(x, "order -1", x.order(-1, 0), 1);
        Check.refused(x, "order at 6", x.order(0, 6), 1);
        Check.refused(x, "order at -1", x.order(0, -1), 1);
        Check.fine(x, "soonest", x.soonest(3), 0);
        Check.fine(x, "latest", x.latest(3), 5);
        Check.fine(x, "surely not", x.surely(0, 1), 0);
        Check.refused(x, "unlike", x.surely(2, 2), 1);
        Check.refused(x, "none such", x.surely(0, 6), 1);
        Check.refused(x, "none such", x.surely(-1, 0), 1);
        Check.refused(x, "none such", x.soonest(6), 1);
        Check.refused(x, "none such", x.latest(-1), 1);
        Check.due("walls", x.size(7), 6);
        // Five years are too few for six walls.
        YearSkins y = walls(5, ";wall a;wall b;wall c;wall d;wall e;wall f");
        Check.fine(y, "no orders", y.orders(), 0);
        Check.fine(y, "soonest", y.soonest(0), -2);
        Check.fine(y, "latest", y.latest(0), -2);
        Check.fine(y, "surely", y.surely(0, 1), 0);
        Check.refused(y, "order", y.order(0, 0), 1);
    }

    private static void older() {
        YearSkins x = walls(10, ";wall a;wall b;wall c;older c a");
        Check.fine(x, "orders", x.orders(), 3);
        int[][] rows = {{1, 2, 0}, {2, 0, 1}, {2, 1, 0}};
        for (int i = 0; i < 3; i++) {
            for (int n = 0; n < 3; n++) {
                Check.fine(x, "order", x.order(i, n), rows[i][n]);
            }
        }
        Check.fine(x, "surely", x.surely(2, 0), 1);
        Check.fine(x, "surely not", x.surely(0, 2), 0);
        Check.fine(x, "surely not", x.surely(1, 2), 0);
        Check.fine(x, "soonest", x.soonest(0), 1);
        Check.fine(x, "latest", x.latest(2), 8);
        // a older than b, b than c: surely a than c.
        YearSkins y = walls(10, ";wall a;wall b;wall c;older a b;older b c");
        Check.fine(y, "one order", y.orders(), 1);
        Check.fine(y, "surely by way of another", y.surely(0, 2), 1);
        Check.fine(y, "soonest", y.soonest(2), 2);
        Check.fine(y, "latest", y.latest(0), 7);
    }

    private static void years() {
        // A coin of year 7, and a smell of year 7, put one ahead of the other.
        YearSkins x = walls(10, ";wall a;wall b;coin a 7;smell b 7");
        Check.fine(x, "orders", x.orders(), 1);
        Check.fine(x, "order", x.order(0, 0), 1);
        Check.fine(x, "soonest", x.soonest(0), 7);
        Check.fine(x, "latest", x.latest(0), 9);
        Check.fine(x, "soonest", x.soonest(1), 0);
        Check.fine(x, "latest", x.latest(1), 6);
        Check.fine(x, "surely", x.surely(1, 0), 1);
        // With a smell of 8 both can be in 7, but not both in the same year.
        YearSkins y = walls(10, ";wall a;wall b;coin a 7;smell b 8");
        Check.fine(y, "orders", y.orders(), 1);
        YearSkins z = walls(10, ";wall a;wall b;coin a 7;smell b 9");
        Check.fine(z, "orders", z.orders(), 2);
        Check.fine(z, "latest", z.latest(1), 8);
        // One wall of no possible year.
        Check.fine(z, "coin of now", walls(7, ";wall a;coin a 7").orders(), 0);
        Check.fine(z, "coin of last year", walls(8, ";wall a;coin a 7").orders(), 1);
        Check.fine(z, "smell of 0", walls(8, ";wall a;smell a 0").orders(), 0);
        Check.fine(z, "smell of 1", walls(8, ";wall a;smell a 1").orders(), 1);
        Check.fine(z, "coin and smell of one year", walls(8, ";wall a;coin a 3;smell a 3").orders(), 0);
        Check.fine(z, "nothing in year 0", walls(0, ";wall a").orders(), 0);
    }

    private static void now() {
        YearSkins x = walls(7, ";wall a;wall b;coin a 8");
        Check.fine(x, "not yet", x.orders(), 0);
        x.years(2);
        Check.fine(x, "by year 9", x.orders(), 1);
        Check.fine(x, "latest", x.latest(0), 8);
        x.years(1);
        Check.fine(x, "by year 10", x.orders(), 2);
        Check.fine(x, "latest", x.latest(1), 9);
        x.undo();
        Check.fine(x, "undone", x.orders(), 1);
    }

    private static void circle() {
        YearSkins x = walls(99, ";wall a;wall b;wall c;older a b;older b c;older c a");
        Check.fine(x, "no orders", x.orders(), 0);
        Check.fine(x, "soonest", x.soonest(1), -2);
        Check.fine(x, "surely", x.surely(0, 1), 0);
    }
}
