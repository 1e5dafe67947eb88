/** Promises 1 to 5 and 50: a new object, the tape, the text, its FAULTS. */
public final class TextTest {
    private static final String LAND = "land wide 9 high 7 doors near share no";
    private static final String YEARS = ";years 100 births 10 fire 20 earns 3";
    private static final String STONE = ";stone s soft costs 2 warm 3 rots 4 strong 50";
    private static final String HOUSE = ";house a at 4,3 of s family 5 gold 60";
    private static final String WHOLE = LAND + YEARS + STONE + HOUSE;

    public static void main(String[] args) {
        newObject();
        tape();
        landStays();
        faultsOfForm();
        faultsOfNames();
        faultsOfAgain();
        faultsOfBounds();
        faultsOfMany();
        faultsOfLacks();
        faultsOfSites();
        Check.end();
    }

    private static void newObject() {
        YearSkins x = new YearSkins();
        Check.due("trouble", x.trouble(), 0);
        Check.due("fault", x.fault(), 0);
        Check.due("where", x.where(), -1);
        for (int what = 0; what <= 12; what++) {
            Check.due("size " + what, x.size(what), 0);
        }
        Check.due("size -1", x.size(-1), -1);
        Check.due("size 13", x.size(13), -1);
        Check.due("size and trouble", x.trouble(), 0);
        Check.due("led", Check.led(x, 0), -1);
        Check.refused(x, "whose", x.whose(0, 0), 1);
        Check.refused(x, "shared", x.shared(), 1);
        Check.refused(x, "free", x.free(), 1);
        Check.refused(x, "house", x.house(0, 0), 1);
        Check.refused(x, "skin", x.skin(0, 1, 0), 1);
        Check.refused(x, "warm", x.warm(0, 0), 1);
        Check.refused(x, "light", x.light(0, 0), 1);
        Check.refused(x, "heir", x.heir(0, 0), 1);
        Check.refused(x, "fits", x.fits(0), 1);
        Check.refused(x, "door", x.door(0), 1);
        Check.refused(x, "costs", x.costs(0, 0), 1);
        Check.refused(x, "way", x.way(0, 0), 1);
        Check.refused(x, "through", x.through(0, 0), 1);
        Check.refused(x, "breaks", x.breaks(0, 0), 1);
        Check.refused(x, "round", x.round(0, 2), 1);
        Check.refused(x, "in", x.in(0, 0, 0), 1);
        Check.refused(x, "skinsIn", x.skinsIn(61), 1);
        Check.refused(x, "meet", x.meet(0, 1, 0), 1);
        Check.refused(x, "falls", x.falls(0, 1, 0), 1);
        Check.refused(x, "room", x.room(0), 1);
        Check.refused(x, "first", x.first(31), 1);
        Check.refused(x, "firstAt", x.firstAt(0, 0), 1);
        Check.refused(x, "heads", x.heads(-1, 0), 1);
        Check.refused(x, "takes", x.takes(0), 1);
        Check.refused(x, "worth", x.worth(0), 1);
        Check.refused(x, "orders", x.orders(), 1);
        Check.refused(x, "order", x.order(0, 0), 1);
        Check.refused(x, "soonest", x.soonest(0), 1);
        Check.refused(x, "latest", x.latest(0), 1);
        Check.refused(x, "surely", x.surely(0, 1), 1);
        Check.refused(x, "years", x.years(0), 1);
        Check.refused(x, "build", x.build(0, 0, 0, 0, 0), 1);
        Check.refused(x, "fill", x.fill(0, 1), 1);
        Check.refused(x, "take", x.take(0), 1);
        Check.refused(x, "lock", x.lock(0, 1, 0), 1);
        Check.refused(x, "move", x.move(0, 0), 1);
        Check.refused(x, "give", x.give(0, 1, 1), 1);
        Check.refused(x, "seed", x.seed(-1), 1);
        Check.refused(x, "undo", x.undo(), 6);
        Check.refused(x, "mark", x.mark(), 1);
        Check.refused(x, "back", x.back(0), 1);
        Check.refused(x, "stone", x.stone(0, 0), 1);
    }

    private static void tape() {
        YearSkins x = new YearSkins();
        Check.refused(x, "land(-1)", x.land(-1), 2);
        Check.refused(x, "land(1)", x.land(1), 2);
        for (int i = 1; i <= 50; i++) {
            Check.due("feed", x.feed(0x20202020, -1, 0, 1, 2), 20 * i);
        }
        Check.due("feed of more", x.feed(0, 0, 0, 0, 0), -1);
        Check.due("feed leaves trouble", x.trouble(), 2);
        Check.due("tape", x.size(12), 1000);
        Check.refused(x, "land(1001)", x.land(1001), 2);
        Check.due("tape stays", x.size(12), 1000);
        Check.refused(x, "land(1000)", x.land(1000), 4);
        Check.due("fault", x.fault(), 1);
        Check.due("where", x.where(), 4);
        Check.due("tape is empty", x.size(12), 0);
        // The highest byte comes first: "land" as one number.
        x.feed(0x6c616e64, 0x20776964, 0x65203220, 0, 0);
        Check.refused(x, "land(11)", x.land(11), 4);
        Check.due("fault", x.fault(), 4);
        Check.due("where", x.where(), 10);
        // A whole tape of a thousand bytes can be a land.
        StringBuilder text = new StringBuilder(WHOLE);
        while (text.length() < 1000) {
            text.append(' ');
        }
        Check.fine(x, "land of 1000", Check.tell(x, text.toString()), 1);
        // Bytes behind the first n are gone too.
        Check.feed(x, WHOLE + " what comes behind is gone");
        Check.fine(x, "land of the first", x.land(WHOLE.length()), 1);
        Check.due("tape", x.size(12), 0);
    }

    private static void landStays() {
        YearSkins x = Check.told(WHOLE);
        Check.due("fault", x.fault(), 0);
        Check.due("where", x.where(), -1);
        x.years(3);
        x.seed(7);
        x.mark();
        int gold = x.house(0, 3);
        Check.refused(x, "land with a fault", Check.tell(x, LAND + ";"), 4);
        Check.due("fault", x.fault(), 1);
        Check.due("where", x.where(), LAND.length() + 1);
        Check.due("year", x.size(8), 103);
        Check.due("seed", x.size(9), 7);
        Check.due("acts", x.size(10), 1);
        Check.due("marks", x.size(11), 1);
        Check.due("where stays", x.where(), LAND.length() + 1);
        Check.fine(x, "gold", x.house(0, 3), gold);
        Check.due("where no more", x.where(), -1);
        Check.due("fault still", x.fault(), 1);
        Check.refused(x, "land(5)", x.land(5), 2);
        Check.due("fault still", x.fault(), 1);
        Check.due("where by 2", x.where(), -1);
        Check.fine(x, "land anew", Check.tell(x, WHOLE), 1);
        Check.due("fault", x.fault(), 0);
        Check.due("year", x.size(8), 100);
        Check.due("seed", x.size(9), 0);
        Check.due("acts", x.size(10), 0);
        Check.due("marks", x.size(11), 0);
        Check.refused(x, "undo", x.undo(), 6);
        Check.refused(x, "back", x.back(0), 1);
    }

    private static void faultsOfForm() {
        Check.fault("", 1, 0);
        Check.fault("   ", 1, 3);
        Check.fault("lands", 1, 0);
        Check.fault("sand", 1, 0);
        Check.fault(" 5", 1, 1);
        Check.fault("land", 1, 4);
        Check.fault("land  ", 1, 6);
        Check.fault("land wide", 1, 9);
        Check.fault("land Wide 5", 1, 5);
        Check.fault("land wide five", 1, 10);
        Check.fault("land wide 5 high 5 doors wide", 1, 25);
        Check.fault("land wide 5 high 5 doors far share ye", 1, 35);
        Check.fault("land wide 0005", 1, 10);
        Check.fault("land widewidew", 1, 5);
        Check.fault(LAND + ";", 1, LAND.length() + 1);
        Check.fault(LAND + " ;; ", 1, LAND.length() + 2);
        Check.fault(LAND + " years", 1, LAND.length() + 1);
        Check.fault(LAND + ",", 1, LAND.length());
        Check.fault(LAND + "\n", 1, LAND.length());
        Check.fault(LAND + (char) 225, 1, LAND.length());
        Check.faultAtLast(LAND + ";water 1 1", 1);
        Check.faultAtLast(LAND + ";wood", 1);
        Check.faultAtLast(LAND + ";stone abcdefghi", 1);
        Check.faultAtLast(LAND + ";stone smell", 1);
        Check.faultAtLast(LAND + ";stone 5", 1);
        Check.faultAtLast(LAND + ";stone s soft cost", 1);
        Check.faultAtLast(WHOLE + ";skin a s up", 1);
        Check.faultAtLast(WHOLE + ";skin wall", 1);
        Check.faultAtLast(WHOLE + ";skin a s north north", 1);
        Check.faultAtLast(WHOLE + ";wall w wall", 1);
        Check.faultAtLast(WHOLE + ";coin 5", 1);
        // Blanks are needed nowhere between a WORD and a WHOLE, and zeros may lead.
        YearSkins x = Check.told("land wide9high007doors near share no;years100births10fire20earns3"
                + " ; stone s soft costs 2 warm 3 rots 4 strong 50 ; house north at 4 , 3 of s family 5 gold 60 ");
        Check.due("high", x.size(1), 7);
    }

    private static void faultsOfNames() {
        Check.faultAtLast(LAND + STONE + ";house a at 4,3 of t", 2);
        Check.faultAtLast(LAND + STONE + ";house a at 4,3 of a", 2);
        Check.faultAtLast(WHOLE + ";skin s", 2);
        Check.faultAtLast(WHOLE + ";skin a a", 2);
        Check.faultAtLast(WHOLE + ";heir h b", 2);
        Check.faultAtLast(WHOLE + ";heir h h", 2);
        Check.faultAtLast(WHOLE + ";wall w;older w v", 2);
        Check.faultAtLast(WHOLE + ";wall w;older a", 2);
        Check.faultAtLast(WHOLE + ";coin w", 2);
        Check.faultAtLast(WHOLE + ";smell north", 2);
    }

    private static void faultsOfAgain() {
        Check.faultAtLast(LAND + STONE + ";stone s", 3);
        Check.faultAtLast(LAND + STONE + ";house s", 3);
        Check.faultAtLast(WHOLE + ";wall a", 3);
        Check.faultAtLast(WHOLE + ";heir s", 3);
        Check.faultAtLast(WHOLE + ";land", 3);
        Check.faultAtLast(WHOLE + ";years", 3);
        Check.faultAtLast(LAND + ";water 2,1;water 1,2;water 2,1", 3);
        Check.faultAtLast(WHOLE + ";wall w;older w w", 3);
        Check.faultAtLast(WHOLE + ";wall w;wall v;older w v;older w v", 3);
        Check.faultAtLast(WHOLE + ";wall w;wall v;older w v;older v w", 3);
        Check.faultAtLast(WHOLE + ";wall w;coin w 1;smell w 2;coin w", 3);
        Check.faultAtLast(WHOLE + ";wall w;coin w 1;smell w 2;smell w", 3);
    }

    private static void faultsOfBounds() {
        Check.faultAtLast("land wide 2", 4);
        Check.faultAtLast("land wide 13", 4);
        Check.faultAtLast("land wide 12 high 2", 4);
        Check.faultAtLast("land wide 3 high 13", 4);
        Check.faultAtLast(LAND + ";years 901", 4);
        Check.faultAtLast(LAND + ";years 900 births 101", 4);
        Check.faultAtLast(LAND + ";years 900 births 100 fire 101", 4);
        Check.faultAtLast(LAND + ";years 900 births 100 fire 100 earns 10", 4);
        Check.faultAtLast(LAND + ";water 9", 4);
        Check.faultAtLast(LAND + ";water 8,7", 4);
        Check.faultAtLast(LAND + ";stone s soft costs 0", 4);
        Check.faultAtLast(LAND + ";stone s soft costs 10", 4);
        Check.faultAtLast(LAND + ";stone s soft costs 9 warm 10", 4);
        Check.faultAtLast(LAND + ";stone s soft costs 9 warm 9 rots 10", 4);
        Check.faultAtLast(LAND + ";stone s soft costs 9 warm 9 rots 9 strong 0", 4);
        Check.faultAtLast(LAND + ";stone s soft costs 9 warm 9 rots 9 strong 100", 4);
        Check.faultAtLast(LAND + STONE + ";house a at 9", 4);
        Check.faultAtLast(LAND + STONE + ";house a at 8,7", 4);
        Check.faultAtLast(LAND + STONE + ";house a at 8,6 of s family 100", 4);
        Check.faultAtLast(WHOLE + ";skin a s north 1", 4);
        Check.faultAtLast(WHOLE + ";skin a s north 0 lock 100", 4);
        Check.faultAtLast(WHOLE + ";skin a s north 0 lock 99;skin a s west 3", 4);
        Check.faultAtLast(WHOLE + ";skin a s north 0 lock 99;skin a s west 2 lock 0;heir h a 3", 4);
        Check.told(WHOLE + ";skin a s north 0 lock 99;skin a s west 2 lock 0;heir h a 2");
        Check.told(WHOLE + ";wall w;coin w 999;smell w 999");
    }

    private static void faultsOfMany() {
        StringBuilder water = new StringBuilder(LAND);
        for (int i = 0; i < 10; i++) {
            water.append(";water ").append(i % 5).append(',').append(i / 5);
        }
        Check.faultAtLast(water + ";water", 5);
        Check.told(water + YEARS + STONE + HOUSE);
        // Behind a house an eleventh water is too many first, as that is the lesser number.
        Check.faultAtLast(water + STONE + HOUSE + ";water", 5);
        StringBuilder stones = new StringBuilder(LAND);
        for (int i = 0; i < 4; i++) {
            stones.append(";stone s").append((char) ('a' + i)).append(" hard costs 1 warm 0 rots 0 strong 1");
        }
        Check.faultAtLast(stones + ";stone", 5);
        StringBuilder houses = new StringBuilder(LAND + STONE);
        for (int i = 0; i < 4; i++) {
            houses.append(";house h").append((char) ('a' + i)).append(" at ").append(2 * i).append(",0 of s family 0 gold 0");
        }
        Check.faultAtLast(houses + ";house", 5);
        StringBuilder heirs = new StringBuilder(WHOLE);
        StringBuilder walls = new StringBuilder(WHOLE);
        for (int i = 0; i < 6; i++) {
            heirs.append(";heir h").append((char) ('a' + i)).append(" a 0");
            walls.append(";wall w").append((char) ('a' + i));
        }
        Check.faultAtLast(heirs + ";heir", 5);
        Check.faultAtLast(walls + ";wall", 5);
        String olders = walls + ";older wa wb;older wa wc;older wa wd;older wa we;older wa wf;older wb wc;older wb wd;older wb we";
        Check.faultAtLast(olders + ";older", 5);
        Check.told(olders);
    }

    private static void faultsOfLacks() {
        Check.fault("years", 6, 0);
        Check.fault(" smell", 6, 1);
        Check.faultAtLast(LAND + STONE + HOUSE + ";water", 6);
        Check.fault(LAND, 6, LAND.length());
        Check.fault(LAND + "  ", 6, LAND.length() + 2);
        Check.fault(LAND + YEARS, 6, (LAND + YEARS).length());
        Check.fault(LAND + YEARS + STONE, 6, (LAND + YEARS + STONE).length());
        Check.fault(LAND + STONE + HOUSE, 6, (LAND + STONE + HOUSE).length());
        Check.told(LAND + STONE + HOUSE + YEARS);
    }

    private static void faultsOfSites() {
        Check.faultAtLast(LAND + ";water 3,3" + STONE + ";house a at 3,3", 7);
        Check.faultAtLast(WHOLE + ";house b at 4,3", 7);
        Check.faultAtLast(WHOLE + ";skin a s north 0 lock 0;house b at 5,4", 7);
        Check.faultAtLast(LAND + STONE + ";house b at 0,3 of s family 0 gold 0;skin b", 7);
        Check.faultAtLast(LAND + ";water 3,2" + STONE + HOUSE + ";skin a", 7);
        Check.faultAtLast(WHOLE + ";house b at 6,3 of s family 0 gold 0;skin a s north 0 lock 0;skin b", 7);
        // A new core stands on no house's CELL, though its SKIN could share it.
        Check.faultAtLast("land wide 9 high 7 doors near share yes" + STONE + HOUSE + ";skin a s north 0 lock 0;house b at 5,3", 7);
        // The fourth SKIN does not fit on a land 7 high.
        String three = WHOLE + ";skin a s north 0 lock 0;skin a s north 0 lock 0;skin a s east 4 lock 0";
        Check.told(three);
        Check.faultAtLast(three + ";skin a", 7);
    }
}
