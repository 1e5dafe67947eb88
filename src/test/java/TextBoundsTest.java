import java.util.function.ToIntFunction;

/** Part I, and promises 2 to 5: of each bound of the text and of the tape the last within it and the first beyond it. */
public final class TextBoundsTest {
    private static final String LAND = "land wide 9 high 7 doors near share no";
    private static final String YEARS = ";years 100 births 10 fire 20 earns 3";
    private static final String STONE = ";stone s soft costs 2 warm 3 rots 4 strong 50";
    private static final String HOUSE = ";house a at 4,3 of s family 5 gold 60";
    private static final String WHOLE = LAND + YEARS + STONE + HOUSE;
    private static final String[] LINES = {"land", "years", "water", "stone", "house", "skin", "heir", "wall", "older", "coin", "smell"};
    private static final String[] OTHERS = {"wide", "high", "doors", "near", "far", "share", "yes", "no", "births", "fire", "earns",
        "hard", "soft", "wood", "costs", "warm", "rots", "strong", "at", "of", "family", "gold", "north", "east", "south", "west", "lock"};
    private static final String[] SIDES = {"north", "east", "south", "west"};

    public static void main(String[] args) {
        tapeIsFull();
        tapeOfHowMany();
        tapeTakesTheHighestFirst();
        bytesThatBeginNoToken();
        wordsOfEight();
        wholesOfThree();
        landBounds();
        yearsBounds();
        waterBounds();
        stoneBounds();
        houseBounds();
        skinBounds();
        heirBounds();
        wallBounds();
        linesOfEachSort();
        namesThatAreNone();
        namesOfAnotherSort();
        namesToldAgain();
        toldAgain();
        aheadOfTheLand();
        atTheEnd();
        cuts();
        eachWordIsDue();
        eachSignIsDue();
        signsAndWholes();
        allNames();
        fullLandsAgain();
        cores();
        skinsThatDoNotFit();
        leastNumberLeftmostPlace();
        latestLand();
        placeOfTheLatestCall();
        Check.end();
    }

    private static void feedBlanks(YearSkins x, int feeds) {
        for (int i = 0; i < feeds; i++) {
            x.feed(0x20202020, 0x20202020, 0x20202020, 0x20202020, 0x20202020);
        }
    }

    private static void tapeIsFull() {
        YearSkins x = new YearSkins();
        feedBlanks(x, 48);
        Check.due("980 bytes", x.feed(0x20202020, 0x20202020, 0x20202020, 0x20202020, 0x20202020), 980);
        Check.due("1000 bytes", x.feed(0x20202020, 0x20202020, 0x20202020, 0x20202020, 0x2020204c), 1000);
        for (int i = 0; i < 3; i++) {
            Check.due("1020 bytes", x.feed(-1, -1, -1, -1, -1), -1);
            Check.due("none comes", x.size(12), 1000);
        }
        Check.due("no trouble by feed", x.trouble(), 0);
        Check.refused(x, "land", x.land(1000), 4);
        Check.due("the first byte that is no blank", x.where(), 999);
        Check.due("the tape is empty", x.size(12), 0);
        Check.due("and takes bytes", x.feed(0, 0, 0, 0, 0), 20);
        // The last byte of a full tape counts.
        YearSkins y = new YearSkins();
        StringBuilder text = new StringBuilder(WHOLE.replace("gold 60", "gold "));
        while (text.length() < 999) {
            text.append(' ');
        }
        Check.fine(y, "a land of 1000", Check.tell(y, text + "7"), 1);
        Check.due("gold", y.house(0, 3), 7);
        // A whole land may begin at the end of the tape.
        YearSkins z = new YearSkins();
        StringBuilder late = new StringBuilder(WHOLE);
        while (late.length() < 1000) {
            late.insert(0, ' ');
        }
        Check.fine(z, "a late land", Check.tell(z, late.toString()), 1);
    }

    private static void tapeOfHowMany() {
        YearSkins x = new YearSkins();
        Check.refused(x, "0 of an empty tape is read", x.land(0), 4);
        Check.refused(x, "1 of an empty tape", x.land(1), 2);
        Check.feed(x, WHOLE);
        int fed = x.size(12);
        Check.due("whole twenties", fed, (WHOLE.length() + 19) / 20 * 20);
        Check.refused(x, "one too many", x.land(fed + 1), 2);
        Check.refused(x, "less than none", x.land(-1), 2);
        Check.refused(x, "most", x.land(Integer.MAX_VALUE), 2);
        Check.refused(x, "least", x.land(Integer.MIN_VALUE), 2);
        Check.due("the tape stays", x.size(12), fed);
        Check.fine(x, "all of it", x.land(fed), 1);
        Check.due("the tape is empty", x.size(12), 0);
        Check.refused(x, "it is gone", x.land(1), 2);
        // What stays behind a refusal by 2 goes on with what is fed next.
        YearSkins y = new YearSkins();
        String padded = WHOLE;
        while (padded.length() % 20 != 0) {
            padded += " ";
        }
        Check.feed(y, padded.substring(0, 40));
        Check.refused(y, "too many", y.land(41), 2);
        Check.feed(y, padded.substring(40));
        Check.fine(y, "both", y.land(padded.length()), 1);
        // The first n alone are the LAND; the rest is gone.
        YearSkins z = new YearSkins();
        Check.feed(z, WHOLE + "99;wall w");
        Check.fine(z, "the first", z.land(WHOLE.length()), 1);
        Check.due("gold", z.house(0, 3), 60);
        Check.due("walls", z.size(7), 0);
        Check.due("the rest is gone", z.size(12), 0);
        Check.feed(z, WHOLE + "9");
        Check.fine(z, "one more", z.land(WHOLE.length() + 1), 1);
        Check.due("gold", z.house(0, 3), 609);
        Check.feed(z, WHOLE);
        Check.fine(z, "one less", z.land(WHOLE.length() - 1), 1);
        Check.due("gold", z.house(0, 3), 6);
    }

    private static void tapeTakesTheHighestFirst() {
        // Twenty bytes, each of its own place; what is fed is "land wide 3 high 12;".
        int[] due = {0x6c616e64, 0x20776964, 0x65203320, 0x68696768, 0x2031323b};
        YearSkins x = new YearSkins();
        x.feed(due[0], due[1], due[2], due[3], due[4]);
        Check.refused(x, "land", x.land(20), 4);
        Check.due("fault", x.fault(), 1);
        Check.due("where", x.where(), 19);
        for (int i = 0; i < 18; i++) {
            // A byte of 255 spoils its own place and none ahead of it.
            int[] spoilt = due.clone();
            spoilt[i / 4] |= 255 << 24 - i % 4 * 8;
            YearSkins y = new YearSkins();
            y.feed(spoilt[0], spoilt[1], spoilt[2], spoilt[3], spoilt[4]);
            Check.refused(y, "land spoilt at " + i, y.land(20), 4);
            Check.due("fault at " + i, y.fault(), 1);
            boolean cutsWord = i < 4 || i > 5 && i < 9 || i > 12 && i < 16;
            int start = i < 4 ? 0 : i < 9 ? 5 : 12;
            Check.due("where at " + i, y.where(), cutsWord ? start : i);
        }
    }

    private static void bytesThatBeginNoToken() {
        for (int sign = 0; sign < 256; sign++) {
            boolean letter = sign >= 'a' && sign <= 'z';
            boolean digit = sign >= '0' && sign <= '9';
            String text = LAND + YEARS + STONE + ";wall q" + (char) sign + ";";
            if (letter || sign == ' ') {
                Check.told(text + HOUSE.substring(1));
            } else {
                // Be it no TOKEN, or one with which the LINE does not go on.
                int at = LAND.length() + YEARS.length() + STONE.length() + 7 + (sign == ';' ? 1 : 0);
                Check.fault(text, 1, at);
            }
            String inWhole = LAND + YEARS + STONE + ";house a at 4,3 of s family 5 gold 6" + (char) sign;
            if (digit || sign == ' ') {
                Check.told(inWhole);
            } else {
                Check.fault(inWhole, 1, sign == ';' ? inWhole.length() : inWhole.length() - 1);
            }
        }
    }

    private static void wordsOfEight() {
        Check.told(WHOLE + ";wall z");
        Check.told(WHOLE + ";wall abcdefgh");
        Check.faultAtLast(WHOLE + ";wall abcdefghi", 1);
        Check.faultAtLast(WHOLE + ";wall abcdefgh;wall abcdefgh", 3);
        // Names are all of their letters.
        Check.told(WHOLE + ";wall abcdefgh;wall abcdefg;wall bcdefgh;wall abcdefgi;wall zzzzzzzz;wall zzzzzzz");
        Check.told(WHOLE + ";wall aa;wall aaa;wall aaaa;wall b");
        Check.faultAtLast(WHOLE + ";wall zzzzzzzz;coin zzzzzzz", 2);
        Check.faultAtLast(WHOLE + ";wall aa;coin aaa", 2);
        Check.fault("landland", 1, 0);
        Check.fault("landwide 9", 1, 0);
        Check.fault("lan d", 1, 0);
    }

    private static void wholesOfThree() {
        Check.told(WHOLE.replace("gold 60", "gold 0"));
        Check.told(WHOLE.replace("gold 60", "gold 000"));
        Check.faultAtLast(WHOLE.replace("gold 60", "gold 0000"), 1);
        Check.told(WHOLE.replace("gold 60", "gold 999"));
        Check.faultAtLast(WHOLE.replace("gold 60", "gold 1000"), 1);
        Check.faultAtLast(WHOLE.replace("gold 60", "gold 0999"), 1);
        Check.faultAtLast(WHOLE.replace("gold 60", "gold 4294967296"), 1);
        Check.due("leading zeros", Check.told(WHOLE.replace("gold 60", "gold 007")).house(0, 3), 7);
        Check.fault("land wide 009 high 0007", 1, 19);
    }

    /** A WHOLE between two texts: its least and its most are told, one less and one more are a FAULT 4 at it. */
    private static void bounds(String before, int least, int most, String behind, ToIntFunction<YearSkins> told) {
        Check.due("[" + before + "] least", told.applyAsInt(Check.told(before + least + behind)), least);
        Check.due("[" + before + "] most", told.applyAsInt(Check.told(before + most + behind)), most);
        if (least > 0) {
            Check.fault(before + (least - 1) + behind, 4, before.length());
        }
        // Of 1000 there is no TOKEN.
        Check.fault(before + (most + 1) + behind, most + 1 < 1000 ? 4 : 1, before.length());
    }

    private static void landBounds() {
        String rest = YEARS + STONE + ";house a at 1,1 of s family 0 gold 0";
        bounds("land wide ", 3, 12, " high 5 doors far share yes" + rest, x -> x.size(0));
        bounds("land wide 5 high ", 3, 12, " doors far share yes" + rest, x -> x.size(1));
        Check.fault("land wide 999", 4, 10);
        Check.fault("land wide 0", 4, 10);
        for (String law : new String[] {"near", "far"}) {
            for (String share : new String[] {"yes", "no"}) {
                YearSkins x = Check.told("land wide 5 high 5 doors " + law + " share " + share + rest);
                Check.due(law, x.size(2), law.equals("far") ? 1 : 0);
                Check.due(share, x.size(3), share.equals("yes") ? 1 : 0);
            }
        }
        Check.faultAtLast("land wide 5 high 5 doors yes", 1);
        Check.faultAtLast("land wide 5 high 5 doors fa", 1);
        Check.faultAtLast("land wide 5 high 5 doors nears", 1);
        Check.faultAtLast("land wide 5 high 5 doors near share near", 1);
        Check.faultAtLast("land wide 5 high 5 doors near share yess", 1);
    }

    private static void yearsBounds() {
        String rest = STONE + ";house a at 0,0 of s family 5 gold 0;house b at 4,3 of s family 0 gold 0";
        bounds(LAND + ";years ", 0, 900, " births 0 fire 0 earns 0" + rest, x -> x.size(8));
        bounds(LAND + ";years 0 births ", 0, 100, " fire 0 earns 0" + rest, x -> 100 * (x.in(0, 1, 1) - 5));
        String wood = ";stone s wood costs 2 warm 3 rots 0 strong 50;house a at 0,0 of s family 0 gold 0"
                + ";house b at 4,3 of s family 1 gold 0;skin b s north 0 lock 0";
        bounds(LAND + ";years 0 births 0 fire ", 0, 100, " earns 0" + wood, x -> 100 * x.in(1, 1, 3));
        bounds(LAND + ";years 0 births 0 fire 0 earns ", 0, 9, rest, x -> x.in(0, 1, 2) / 5);
        Check.fault(LAND + ";years 0" + "years", 1, LAND.length() + 8);
    }

    private static void waterBounds() {
        String rest = YEARS + STONE + ";house a at 4,3 of s family 0 gold 0";
        for (int x = 0; x <= 9; x++) {
            for (int y = 0; y <= 7; y++) {
                String text = LAND + ";water " + x + "," + y;
                if (x == 9) {
                    Check.fault(text, 4, LAND.length() + 7);
                } else if (y == 7) {
                    Check.fault(text, 4, LAND.length() + 9);
                } else if (x != 4 || y != 3) {
                    Check.due("free by " + text, Check.told(text + rest).free(), 63 - 2);
                }
            }
        }
    }

    private static void stoneBounds() {
        String head = LAND + YEARS + ";stone s wood costs ";
        bounds(head, 1, 9, " warm 0 rots 0 strong 1" + HOUSE, x -> x.stone(0, 1));
        bounds(head + "1 warm ", 0, 9, " rots 0 strong 1" + HOUSE, x -> x.stone(0, 2));
        bounds(head + "1 warm 0 rots ", 0, 9, " strong 1" + HOUSE, x -> x.stone(0, 3));
        bounds(head + "1 warm 0 rots 0 strong ", 1, 99, HOUSE, x -> x.stone(0, 4));
        String[] kinds = {"hard", "soft", "wood"};
        for (int i = 0; i < 3; i++) {
            Check.due(kinds[i], Check.told(WHOLE.replace("soft", kinds[i])).stone(0, 0), i);
        }
        Check.faultAtLast(LAND + ";stone s stone", 1);
        Check.faultAtLast(LAND + ";stone s woods", 1);
        Check.faultAtLast(LAND + ";stone s har", 1);
    }

    private static void houseBounds() {
        String head = LAND + YEARS + STONE + ";house a at ";
        bounds(head, 0, 8, ",3 of s family 0 gold 0", x -> x.house(0, 0) - 27);
        bounds(head + "4,", 0, 6, " of s family 0 gold 0", x -> (x.house(0, 0) - 4) / 9);
        bounds(head + "4,3 of s family ", 0, 99, " gold 0", x -> x.house(0, 2));
        bounds(head + "4,3 of s family 0 gold ", 0, 999, "", x -> x.house(0, 3));
    }

    /** SKINS told one about the other; doors have places 0 .. 2 r less 2 on each SIDE, locks 0 .. 99. */
    private static void skinBounds() {
        StringBuilder text = new StringBuilder("land wide 12 high 12 doors near share no" + YEARS + STONE + ";house a at 6,6 of s family 0 gold 0");
        for (int r = 1; r <= 5; r++) {
            int skin = r;
            for (int side = 0; side < 4; side++) {
                int due = side;
                String head = text + ";skin a s " + SIDES[side] + " ";
                bounds(head, 0, 2 * r - 2, " lock 5", x -> x.skin(0, skin, 1) == due ? x.skin(0, skin, 2) : -1);
                bounds(head + "0 lock ", 0, 99, "", x -> x.skin(0, skin, 3));
            }
            text.append(";skin a s west ").append(2 * r - 2).append(" lock 99");
        }
        Check.due("five skins", Check.told(text.toString()).house(0, 1), 5);
        // A sixth has no room on a land of 12 by 12: it doesn't FIT.
        Check.faultAtLast(text + ";skin a", 7);
    }

    private static void heirBounds() {
        StringBuilder text = new StringBuilder("land wide 12 high 12 doors near share no" + YEARS + STONE + ";house a at 6,6 of s family 0 gold 0");
        for (int r = 0; r <= 5; r++) {
            bounds(text + ";heir h a ", 0, r, "", x -> x.heir(0, 1));
            text.append(";skin a s west 0 lock 0");
        }
        // The SKIN must be told ahead, and of that house.
        Check.faultAtLast(WHOLE + ";heir h a 1", 4);
        Check.told(WHOLE + ";skin a s north 0 lock 0;heir h a 1");
        Check.faultAtLast(WHOLE + ";skin a s north 0 lock 0;house b at 0,0 of s family 0 gold 0;heir h b 1", 4);
    }

    private static void wallBounds() {
        String late = WHOLE.replace("years 100", "years 900") + ";wall w;";
        bounds(late + "coin w ", 0, 999, "", x -> x.orders() == 1 ? x.soonest(0) : 999);
        bounds(late + "smell w ", 0, 999, "", x -> x.orders() == 0 ? 0 : x.latest(0) == 899 ? 999 : -1);
        Check.due("coin of 899", Check.told(late + "coin w 899").soonest(0), 899);
        Check.due("coin of 900", Check.told(late + "coin w 900").soonest(0), -2);
        Check.due("smell of 900", Check.told(late + "smell w 900").latest(0), 899);
        Check.due("smell of 899", Check.told(late + "smell w 899").latest(0), 898);
    }

    private static String times(int count, String line) {
        StringBuilder text = new StringBuilder();
        for (int i = 0; i < count; i++) {
            text.append(line.replace('#', (char) ('a' + i)).replace("@", "" + i % 9).replace("%", "" + i / 9));
        }
        return text.toString();
    }

    /** As many LINES of a sort as there is room for, and one more. */
    private static void linesOfEachSort() {
        many(LAND, ";water @,%", 10, YEARS + STONE + HOUSE);
        many(LAND + YEARS, ";stone w# hard costs 1 warm 0 rots 0 strong 1", 4, HOUSE.replace("of s", "of wa"));
        many(LAND + YEARS + STONE, ";house w# at @,0 of s family 0 gold 0", 4, "");
        many(WHOLE, ";heir w# a 0", 6, "");
        many(WHOLE, ";wall w#", 6, "");
        String walls = WHOLE + times(6, ";wall #w");
        String olders = ";older aw bw;older aw cw;older aw dw;older aw ew;older aw fw;older bw cw;older bw dw;older bw ew";
        Check.due("eight older", Check.told(walls + olders).orders() > 0, true);
        Check.faultAtLast(walls + olders + ";older", 5);
        // Each WALL may have a coin and a smell: twelve LINES.
        Check.due("coins, smells", Check.told(walls + times(6, ";coin #w 9") + times(6, ";smell #w 99")).orders(), 720);
        // Room for one sort is none for another.
        YearSkins x = Check.told(LAND + times(10, ";water @,%") + YEARS + STONE + HOUSE + times(6, ";heir h# a 0") + times(6, ";wall w#"));
        Check.due("heirs", x.size(6), 6);
        Check.due("walls", x.size(7), 6);
        Check.due("free", x.free(), 63 - 11);
        Check.faultAtLast(WHOLE + ";years", 3);
        Check.faultAtLast(WHOLE + ";land", 3);
        Check.faultAtLast(LAND + ";land", 3);
    }

    private static void many(String head, String line, int most, String behind) {
        Check.told(head + times(most, line) + behind);
        String word = line.substring(0, line.indexOf(' '));
        Check.faultAtLast(head + times(most, line) + word, 5);
    }

    private static void namesThatAreNone() {
        String[] told = {";stone ", ";house ", ";heir ", ";wall "};
        String[] used = {";house b at 0,0 of ", ";skin ", ";skin a ", ";heir h ", ";older ", ";older w ", ";coin ", ";smell "};
        for (String line : LINES) {
            for (String head : told) {
                Check.faultAtLast(WHOLE + head + line, 1);
            }
            for (String head : used) {
                Check.faultAtLast(WHOLE + ";wall w" + head + line, 1);
            }
            // One letter more or less is a NAME.
            Check.told(WHOLE + ";wall " + line + "x;wall " + line.substring(1) + ";wall " + line.substring(0, line.length() - 1));
        }
        for (String other : OTHERS) {
            Check.told(LAND + YEARS + STONE.replace("stone s", "stone " + other) + HOUSE.replace("of s", "of " + other));
            Check.told(LAND + YEARS + STONE + HOUSE.replace("house a", "house " + other) + ";skin " + other + " s north 0 lock 0;heir h " + other + " 1");
            Check.told(WHOLE + ";heir " + other + " a 0");
            Check.told(WHOLE + ";wall " + other + ";wall w;older " + other + " w;coin " + other + " 5;smell " + other + " 6");
        }
        for (String head : told) {
            Check.faultAtLast(WHOLE + head + "5", 1);
            Check.fault(WHOLE + head + ";", 1, WHOLE.length() + head.length());
        }
        for (String head : used) {
            Check.faultAtLast(WHOLE + ";wall w" + head + "5", 1);
        }
    }

    /** Each NAME that must be told stands where each sort of NAME, or one that isn't told, is not due. */
    private static void namesOfAnotherSort() {
        String head = WHOLE + ";heir h a 0;wall w";
        String[] sorts = {"s", "a", "h", "w", "x"};
        String[] used = {";house b at 0,0 of ", ";skin ", ";skin a ", ";heir i ", ";older ", ";older w ", ";coin ", ";smell "};
        int[] due = {0, 1, 0, 1, 3, 3, 3, 3};
        for (int i = 0; i < used.length; i++) {
            for (int sort = 0; sort < sorts.length; sort++) {
                if (sort != due[i]) {
                    Check.faultAtLast(head + used[i] + sorts[sort], 2);
                } else if (!used[i].equals(";older w ")) {
                    // What is due is no FAULT: the text lacks what comes next.
                    String text = head + used[i] + sorts[sort];
                    Check.fault(text, 1, text.length());
                }
            }
        }
        // A NAME is told ahead of its use, not behind it.
        Check.faultAtLast(LAND + YEARS + ";house a at 4,3 of s", 2);
        Check.faultAtLast(WHOLE + ";house b at 0,0 of b", 2);
        Check.faultAtLast(WHOLE + ";heir h h", 2);
    }

    private static void namesToldAgain() {
        String head = WHOLE + ";heir h a 0;wall w";
        for (String name : new String[] {"s", "a", "h", "w"}) {
            Check.faultAtLast(head + ";stone " + name, 3);
            Check.faultAtLast(head + ";house " + name, 3);
            Check.faultAtLast(head + ";heir " + name, 3);
            Check.faultAtLast(head + ";wall " + name, 3);
        }
    }

    private static void toldAgain() {
        String head = WHOLE + ";wall p;wall q;wall r";
        Check.faultAtLast(LAND + ";water 0,0;water 0,0", 3);
        Check.faultAtLast(LAND + ";water 8,6;water 0,0;water 8,6", 3);
        Check.told(LAND + ";water 0,1;water 1,0;water 8,0;water 0,6;water 8,6" + YEARS + STONE + HOUSE);
        Check.faultAtLast(head + ";older p p", 3);
        Check.faultAtLast(head + ";older p q;older p q", 3);
        Check.faultAtLast(head + ";older p q;older q p", 3);
        Check.faultAtLast(head + ";older r p;older p q;older p r", 3);
        Check.faultAtLast(head + ";older q r;older q r", 3);
        Check.faultAtLast(head + ";older r q;older r q", 3);
        Check.faultAtLast(head + ";older r q;older q r", 3);
        Check.faultAtLast(head + ";older r q;older p q;older p q", 3);
        Check.faultAtLast(head + ";older q q", 3);
        Check.faultAtLast(head + ";older r r", 3);
        Check.told(head + ";older p q;older q r;older p r");
        Check.due("a circle is told", Check.told(head + ";older p q;older q r;older r p").orders(), 0);
        Check.faultAtLast(head + ";coin p 0;coin p", 3);
        Check.faultAtLast(head + ";smell p 0;smell p", 3);
        Check.told(head + ";coin p 5;smell p 5;coin q 5;smell q 5");
    }

    private static void aheadOfTheLand() {
        for (String line : LINES) {
            if (!line.equals("land")) {
                Check.fault(line, 6, 0);
                Check.fault("  " + line + " 5", 6, 2);
            }
        }
        Check.fault("wide", 1, 0);
        Check.fault(";" + WHOLE, 1, 0);
        Check.fault("years 901;", 6, 0);
        Check.faultAtLast(LAND + STONE + HOUSE + ";water", 6);
        Check.told(LAND + STONE + ";water 0,0" + YEARS + ";water 1,0" + HOUSE);
    }

    private static void atTheEnd() {
        String[] lacking = {LAND, LAND + YEARS, LAND + STONE, LAND + YEARS + STONE, LAND + STONE + HOUSE};
        for (String text : lacking) {
            Check.fault(text, 6, text.length());
            Check.fault(text + "   ", 6, text.length() + 3);
            // A LINE that isn't whole is the lesser FAULT.
            Check.fault(text + ";", 1, text.length() + 1);
            Check.fault(text + "; ", 1, text.length() + 2);
            Check.fault(text + ";wall", 1, text.length() + 5);
        }
        Check.told(LAND + STONE + HOUSE + YEARS);
        Check.told(WHOLE + "   ");
        Check.fault(WHOLE + " ;", 1, WHOLE.length() + 2);
    }

    /** A text of every sort of LINE, cut behind each of its bytes: a whole LAND only where a LINE has ended. */
    private static void cuts() {
        String text = WHOLE + ";skin a s north 0 lock 7;heir h a 1;wall w;wall v;older w v;coin w 30;smell v 60";
        for (int n = 0; n <= text.length(); n++) {
            String cut = text.substring(0, n);
            YearSkins x = new YearSkins();
            int got = Check.tell(x, cut);
            if (n >= WHOLE.length() - 1 && isWhole(cut.substring(cut.lastIndexOf(';') + 1))) {
                Check.due("cut at " + n, got, 1);
            } else {
                Check.refused(x, "cut at " + n, got, 4);
                Check.due("fault of the cut at " + n, x.fault() != 0 && x.where() <= n, true);
            }
            Check.due("tape behind the cut at " + n, x.size(12), 0);
        }
    }

    private static final String EVERY = "land wide 9 high 7 doors near share no;years 100 births 10 fire 20 earns 3;water 0,0"
            + ";stone s soft costs 2 warm 3 rots 4 strong 50;house a at 4,3 of s family 5 gold 60;skin a s north 0 lock 7;heir h a 1"
            + ";wall w;wall v;older w v;coin w 30;smell v 60";

    /** Each WORD of a LINE that is no NAME, left out, or told twice: at the TOKEN that stands there instead. */
    private static void eachWordIsDue() {
        Check.told(EVERY);
        String[] words = {"wide", "high", "doors", "near", "share", "no", "births", "fire", "earns", "soft", "costs", "warm", "rots", "strong",
            "at", "of", "family", "gold", "north", "lock"};
        for (String word : words) {
            int at = EVERY.indexOf(" " + word) + 1;
            String without = EVERY.substring(0, at) + EVERY.substring(at + word.length()).replaceFirst("^ ", "");
            Check.fault(without, 1, at);
            String twice = EVERY.substring(0, at) + word + " " + EVERY.substring(at);
            // Behind of comes a NAME, and that may be of too.
            Check.fault(twice, word.equals("of") ? 2 : 1, at + word.length() + 1);
        }
        // Without its first WORD a LINE is none.
        for (String line : LINES) {
            int at = EVERY.indexOf(line.equals("land") ? "land " : ";" + line + " ") + (line.equals("land") ? 0 : 1);
            Check.fault(EVERY.substring(0, at) + EVERY.substring(at + line.length() + 1), 1, at);
        }
    }

    /** Each ; and , left out, told twice, or one for the other. */
    private static void eachSignIsDue() {
        for (int at = 0; at < EVERY.length(); at++) {
            char sign = EVERY.charAt(at);
            if (sign == ';' || sign == ',') {
                String head = EVERY.substring(0, at);
                String rest = EVERY.substring(at + 1);
                Check.fault(head + " " + rest, 1, at + 1);
                Check.fault(head + sign + sign + rest, 1, at + 1);
                Check.fault(head + (sign == ';' ? ',' : ';') + rest, 1, at);
                Check.told(head + " " + sign + "  " + rest);
            }
        }
    }

    /** No number stands for a sign, and no sign for a number: 44 and 59 are the bytes of , and ;. */
    private static void signsAndWholes() {
        Check.faultAtLast(LAND + ";water 1 44", 1);
        Check.faultAtLast(LAND + ";water 1 0044", 1);
        Check.faultAtLast(LAND + " 59", 1);
        Check.faultAtLast(LAND + " 0059", 1);
        Check.faultAtLast(WHOLE.replace("gold 60", "gold 59") + " abcdefghi", 1);
        Check.faultAtLast(WHOLE.replace("gold 60", "gold 59") + " wall", 1);
        String gold = WHOLE.substring(0, WHOLE.length() - 2);
        Check.fault(gold + ",", 1, gold.length());
        Check.fault(gold + ";", 1, gold.length());
        Check.fault("land wide ,", 1, 10);
        Check.fault(LAND + ";water ,1", 1, LAND.length() + 7);
        Check.fault(WHOLE + ";wall ,", 1, WHOLE.length() + 6);
        Check.fault(WHOLE + ";wall w;coin ;", 1, WHOLE.length() + 13);
    }

    /** As many NAMES as there can be: 4 STONES, 4 houses, 6 heirs, 6 WALLS; each can be used, none told again. */
    private static void allNames() {
        String text = LAND + YEARS + times(4, ";stone s# hard costs 1 warm 0 rots 0 strong 1") + times(4, ";house h# at @,0 of s# family 0 gold 0")
                + times(6, ";heir i# hd 0") + times(6, ";wall w#");
        YearSkins x = Check.told(text + times(6, ";coin w# 9"));
        Check.due("walls", x.size(7), 6);
        Check.due("soonest", x.soonest(5), 9);
        Check.due("stone of the last house", x.house(3, 4), 3);
        Check.due("house of the last heir", x.heir(5, 0), 3);
        for (String name : new String[] {"sa", "sd", "ha", "hd", "ia", "if", "wa", "we"}) {
            Check.faultAtLast(text.substring(0, text.lastIndexOf(";wall wf")) + ";wall " + name, 3);
        }
        Check.faultAtLast(text + ";wall", 5);
    }

    /** How many LINES there are is counted anew for each LAND. */
    private static void fullLandsAgain() {
        YearSkins x = new YearSkins();
        String full = LAND + times(10, ";water @,%") + YEARS + STONE + HOUSE + times(6, ";wall #w")
                + ";older aw bw;older aw cw;older aw dw;older aw ew;older aw fw;older bw cw;older bw dw;older bw ew";
        for (int i = 0; i < 3; i++) {
            Check.fine(x, "full", Check.tell(x, full), 1);
            Check.due("free", x.free(), 63 - 11);
            Check.refused(x, "one more", Check.tell(x, full + ";older"), 4);
            Check.due("many", x.fault(), 5);
        }
    }

    private static boolean isWhole(String line) {
        return line.matches("house a .* gold \\d+|skin a .* lock \\d|heir h a \\d|wall \\w|older w v|coin w \\d+|smell v \\d+");
    }

    private static void cores() {
        for (String share : new String[] {"yes", "no"}) {
            String head = LAND.replace("share no", "share " + share) + ";water 0,0" + YEARS + STONE;
            String taken = head + HOUSE + ";skin a s north 0 lock 0";
            Check.faultAtLast(head + ";house b at 0,0", 7);
            Check.told(head + ";house b at 1,0 of s family 0 gold 0");
            for (int y = 0; y < 7; y++) {
                for (int x = 0; x < 9; x++) {
                    boolean within = Math.abs(x - 4) <= 1 && Math.abs(y - 3) <= 1;
                    String text = taken + ";house b at " + x + "," + y;
                    if (within || x == 0 && y == 0) {
                        Check.faultAtLast(text, 7);
                    } else {
                        Check.due(text, Check.told(text + " of s family 0 gold 0").size(5), 2);
                    }
                }
            }
        }
        // Out of bounds is the lesser number.
        Check.faultAtLast(WHOLE + ";house b at 4,7", 4);
    }

    private static void skinsThatDoNotFit() {
        // As many SKINS as the core is apart from the nearest end of the land.
        for (int wide = 3; wide <= 12; wide += 3) {
            for (int high = 3; high <= 12; high += 3) {
                for (int cell = 0; cell < wide * high; cell++) {
                    int x = cell % wide;
                    int y = cell / wide;
                    String text = "land wide " + wide + " high " + high + " doors near share no" + YEARS + STONE
                            + ";house a at " + x + "," + y + " of s family 0 gold 0";
                    for (int r = Math.min(Math.min(x, wide - 1 - x), Math.min(y, high - 1 - y)); r > 0; r--) {
                        text += ";skin a s north 0 lock 0";
                    }
                    Check.told(text);
                    Check.faultAtLast(text + ";skin a", 7);
                }
            }
        }
        // At HOUSE, left of all else in the LINE.
        Check.fault(LAND + STONE + ";house a at 0,0 of s family 0 gold 0;skin a x up 99", 7, (LAND + STONE).length() + 42);
    }

    private static void leastNumberLeftmostPlace() {
        Check.fault("land wide 2 high 2", 4, 10);
        Check.fault("land wide 2 high !", 4, 10);
        Check.fault("land wide ! high 2", 1, 10);
        Check.fault(LAND + ";water 0,0;water 0,0;water 9,9", 3, LAND.length() + 19);
        Check.fault(LAND + ";stone s odd costs 0", 1, LAND.length() + 9);
        Check.fault(LAND + ";water 9,9", 4, LAND.length() + 7);
        Check.fault(LAND + ";years 0 births 101 fire 101", 4, LAND.length() + 16);
        Check.fault(WHOLE + ";house b at 4,3 of x", 7, WHOLE.length() + 14);
        Check.fault(WHOLE + ";older x x", 2, WHOLE.length() + 7);
        Check.fault(WHOLE + ";wall w;older w x", 2, WHOLE.length() + 16);
        Check.fault(WHOLE + ";wall w;coin w 1;coin w 1000", 3, WHOLE.length() + 22);
        Check.fault(WHOLE + ";skin a x up", 2, WHOLE.length() + 8);
        // The first WORD of a LINE is left of all that stands in it.
        Check.fault(WHOLE + ";years 901", 3, WHOLE.length() + 1);
        Check.fault(LAND + times(10, ";water @,%") + ";water 99", 5, LAND.length() + 101);
        Check.fault(LAND + times(10, ";water @,%") + STONE + HOUSE + ";water 0,0", 5, LAND.length() + 101 + STONE.length() + HOUSE.length());
    }

    private static void latestLand() {
        YearSkins x = new YearSkins();
        Check.due("no land() yet", x.fault(), 0);
        Check.tell(x, "land wide 2");
        Check.due("4", x.fault(), 4);
        x.land(-1);
        Check.due("refused by 2 counts not", x.fault(), 4);
        x.land(0);
        Check.due("1", x.fault(), 1);
        Check.tell(x, LAND + ";water 1,1;water 1,1");
        Check.due("3", x.fault(), 3);
        Check.tell(x, WHOLE);
        Check.due("none", x.fault(), 0);
        x.land(99);
        Check.due("none still", x.fault(), 0);
        Check.tell(x, "stone");
        Check.due("6", x.fault(), 6);
        x.years(1);
        Check.due("6 still", x.fault(), 6);
    }

    private static void placeOfTheLatestCall() {
        YearSkins x = Check.told(WHOLE);
        Check.due("no fault", x.where(), -1);
        Check.tell(x, "  land wide 2");
        Check.due("its place", x.where(), 12);
        // What has no number of TROUBLE leaves it.
        x.feed(0, 0, 0, 0, 0);
        x.fault();
        x.where();
        x.size(12);
        x.size(99);
        x.trouble();
        Check.led(x, 0);
        Check.due("its place still", x.where(), 12);
        Check.due("trouble still", x.trouble(), 4);
        x.shared();
        Check.due("a call that wasn't refused", x.where(), -1);
        x.land(0);
        Check.tell(x, " sand");
        Check.due("place 1", x.where(), 1);
        x.seed(-1);
        Check.due("a call refused by another number", x.where(), -1);
        Check.tell(x, "");
        Check.due("place 0", x.where(), 0);
        x.land(1);
        Check.due("land refused by 2", x.where(), -1);
        Check.tell(x, WHOLE);
        Check.due("a land", x.where(), -1);
    }
}
