/** Part II, and promises 6 to 20, 48 and 49: what is now, at the bounds that the document names. */
public final class NowBoundsTest {
    private static final String STONES = ";years 5 births 0 fire 0 earns 0"
            + ";stone g hard costs 3 warm 4 rots 1 strong 30;stone w wood costs 2 warm 1 rots 0 strong 5"
            + ";stone f soft costs 9 warm 9 rots 9 strong 99;stone o hard costs 1 warm 0 rots 0 strong 1";
    private static final String[] SIDES = {"north", "east", "south", "west"};
    /** The places of SKIN 2 at which its doors are, by SIDE and place, and those in front of SKIN 1's. */
    private static final int[][] DOORS_OF_2 = {{1, 2, 3}, {5, 6, 7}, {11, 10, 9}, {15, 14, 13}};
    private static final int[] FRONTS_OF_1 = {2, 6, 10, 14};

    public static void main(String[] args) {
        endsOfTheLand();
        fourHousesOnOneCell();
        nothingFree();
        outermostAlone();
        coresAlone();
        waterRound();
        anotherHouseRound();
        doorsByWater();
        doorsByHouses();
        doorsBeyondTheLand();
        shut();
        lastDoor();
        sixDoors();
        doorOfLikeWays();
        costs();
        crowded();
        warmthAndLight();
        warmthOfWhatStands();
        ways();
        roundAll();
        halfRound();
        locksAndWalls();
        rotInWalls();
        filledAndCollapsed();
        stayingOutside();
        throughByDoors();
        throughTheThird();
        fewestWalls();
        led();
        sizes();
        Check.end();
    }

    private static String land(int wide, int high, String law, String share) {
        return "land wide " + wide + " high " + high + " doors " + law + " share " + share + STONES;
    }

    private static String house(String name, int x, int y) {
        return ";house " + name + " at " + x + "," + y + " of g family 0 gold 999";
    }

    private static String skin(String house, String stone, int side, int place, int lock) {
        return ";skin " + house + " " + stone + " " + SIDES[side] + " " + place + " lock " + lock;
    }

    /** SKINS one about the other, each with its door in the middle of the north. */
    private static String skins(String house, String stones) {
        StringBuilder text = new StringBuilder();
        for (int i = 0; i < stones.length(); i++) {
            text.append(skin(house, stones.substring(i, i + 1), 0, i, 0));
        }
        return text.toString();
    }

    private static void endsOfTheLand() {
        int[][] lands = {{3, 12}, {12, 3}, {3, 3}, {12, 12}};
        for (int[] size : lands) {
            int wide = size[0];
            int high = size[1];
            YearSkins x = Check.told(land(wide, high, "near", "no") + house("a", wide - 1, high - 1));
            Check.fine(x, "north-west", x.whose(0, 0), 0);
            Check.fine(x, "north-east", x.whose(wide - 1, 0), 0);
            Check.fine(x, "south-west", x.whose(0, high - 1), 0);
            Check.fine(x, "south-east", x.whose(wide - 1, high - 1), 1);
            Check.refused(x, "beyond the east", x.whose(wide, high - 1), 1);
            Check.refused(x, "beyond the south", x.whose(wide - 1, high), 1);
            Check.refused(x, "beyond the west", x.whose(-1, high - 1), 1);
            Check.refused(x, "beyond the north", x.whose(wide - 1, -1), 1);
            Check.fine(x, "core", x.house(0, 0), wide * high - 1);
            Check.fine(x, "free", x.free(), wide * high - 1);
            Check.fine(x, "no room at the end", x.fits(0), 0);
        }
    }

    private static void fourHousesOnOneCell() {
        String three = land(5, 5, "near", "yes") + house("a", 1, 1) + skins("a", "g") + house("b", 3, 1) + skins("b", "g")
                + house("c", 1, 3) + skins("c", "g");
        YearSkins x = Check.told(three);
        Check.due("three", x.whose(2, 2), 7);
        Check.due("shared by three", x.shared(), 5);
        Check.due("free", x.free(), 4);
        YearSkins y = Check.told(three + house("d", 3, 3) + skins("d", "g"));
        Check.due("four", y.whose(2, 2), 15);
        Check.due("d alone", y.whose(3, 3), 8);
        Check.due("shared by four", y.shared(), 9);
        Check.due("none free", y.free(), 0);
    }

    private static void nothingFree() {
        YearSkins x = Check.told(land(3, 3, "near", "no") + house("a", 1, 1) + skins("a", "g"));
        Check.fine(x, "none is free", x.free(), 0);
        Check.fine(x, "none is shared", x.shared(), 0);
        Check.fine(x, "beyond the land", x.house(0, 5), 1);
        YearSkins y = Check.told("land wide 3 high 3 doors near share no;water 0,0;water 1,0;water 2,0;water 0,1;water 2,1"
                + ";water 0,2;water 1,2;water 2,2" + STONES + house("a", 1, 1));
        Check.fine(y, "water about", y.free(), 0);
        Check.fine(y, "water round", y.fits(0), 0);
    }

    /** By share yes a SKIN may lie on another house's outermost, not on those within it. */
    private static void outermostAlone() {
        for (int apart = 3; apart <= 5; apart++) {
            for (int skins = 1; skins <= 2; skins++) {
                String houses = house("a", 4, 4) + house("b", 4 + apart, 4) + skins("b", "gg".substring(0, skins));
                boolean beside = apart > skins + 1;
                Check.due("no", Check.told(land(12, 9, "near", "no") + houses).fits(0), beside ? 1 : 0);
                Check.due("yes", Check.told(land(12, 9, "near", "yes") + houses).fits(0), apart > skins ? 1 : 0);
            }
        }
        YearSkins x = Check.told(land(12, 9, "near", "yes") + house("a", 4, 4) + skins("a", "g") + house("b", 6, 4) + skins("b", "g"));
        Check.due("shared", x.shared(), 3);
        Check.due("not on a core within", x.fits(0), 0);
        Check.due("not on a core within", x.fits(1), 0);
        YearSkins y = Check.told(land(12, 9, "near", "yes") + house("a", 4, 4) + house("b", 7, 4) + skins("b", "gg"));
        Check.due("build on the outermost", y.build(0, 0, 3, 0, 0), 24);
        Check.due("shared", y.shared(), 3);
        Check.due("whose", y.whose(5, 4), 3);
        Check.due("on a skin within", y.fits(0), 0);
        // What is SHARED stays so when one of both grows.
        YearSkins z = Check.told(land(12, 9, "near", "yes") + house("a", 4, 4) + house("b", 7, 4) + skins("b", "g"));
        Check.due("beside", z.build(0, 0, 3, 0, 0), 24);
        Check.due("not shared", z.shared(), 0);
        Check.due("over the outermost", z.build(0, 0, 3, 1, 0), 48);
        Check.due("shared", z.shared(), 3);
        Check.due("whose", z.whose(6, 4), 3);
    }

    private static void coresAlone() {
        String houses = house("a", 2, 2) + house("b", 3, 3);
        Check.due("no", Check.told(land(5, 5, "near", "no") + houses).fits(0), 0);
        YearSkins x = Check.told(land(5, 5, "near", "yes") + houses);
        Check.due("the core is SKIN 0", x.fits(0), 1);
        Check.due("build", x.build(0, 0, 0, 0, 0), 24);
        Check.due("shared", x.shared(), 1);
        Check.due("whose", x.whose(3, 3), 3);
        Check.due("not on a core within", x.fits(1), 0);
    }

    private static void waterRound() {
        for (int cell = 0; cell < 49; cell++) {
            int apart = Math.max(Math.abs(cell % 7 - 3), Math.abs(cell / 7 - 3));
            String head = "land wide 7 high 7 doors near share no;water " + cell % 7 + "," + cell / 7 + STONES + house("a", 3, 3);
            for (int r = 1; r <= 3 && apart >= r; r++) {
                Check.due("water " + apart + " apart, skin " + r, Check.told(head + skins("a", "gg".substring(0, r - 1))).fits(0), apart == r ? 0 : 1);
            }
        }
    }

    private static void anotherHouseRound() {
        for (int cell = 0; cell < 49; cell++) {
            int apart = Math.max(Math.abs(cell % 7 - 3), Math.abs(cell / 7 - 3));
            String head = land(7, 7, "near", "no") + house("a", 3, 3);
            for (int r = 1; r <= 3 && apart >= r; r++) {
                String text = head + skins("a", "gg".substring(0, r - 1)) + house("b", cell % 7, cell / 7);
                Check.due("house " + apart + " apart, skin " + r, Check.told(text).fits(0), apart == r ? 0 : 1);
            }
        }
    }

    private static int frontX(int core, int r, int side, int place) {
        return side == 1 ? core + r + 1 : side == 3 ? core - r - 1 : core - r + 1 + place;
    }

    private static int frontY(int core, int r, int side, int place) {
        return side == 0 ? core - r - 1 : side == 2 ? core + r + 1 : core - r + 1 + place;
    }

    /** Water in front of one door: that one can't be, each other one can. */
    private static void doorsByWater() {
        for (int r = 1; r <= 3; r++) {
            for (int wet = 0; wet < 4 * (2 * r - 1); wet++) {
                int wetSide = wet / (2 * r - 1);
                int wetPlace = wet % (2 * r - 1);
                String water = ";water " + frontX(4, r, wetSide, wetPlace) + "," + frontY(4, r, wetSide, wetPlace);
                YearSkins x = Check.told("land wide 9 high 9 doors near share no" + water + STONES + house("a", 4, 4) + skins("a", "oo".substring(0, r - 1)));
                for (int door = 0; door < 4 * (2 * r - 1); door++) {
                    int side = door / (2 * r - 1);
                    int place = door % (2 * r - 1);
                    Check.due("door " + side + " " + place + " by" + water, x.build(0, 3, side, place, 0), door == wet ? -1 : 8 * r);
                    Check.due("trouble", x.trouble(), door == wet ? 5 : 0);
                    if (door != wet) {
                        x.undo();
                    }
                }
                // Told, such a door is there, and SHUT.
                String told = skins("a", "oo".substring(0, r - 1)) + skin("a", "g", wetSide, wetPlace, 0);
                String head = "land wide 9 high 9 doors near share no";
                Check.due("shut", Check.told(head + water + STONES + house("a", 4, 4) + told).house(0, 5), 1);
                Check.due("not shut", Check.told(head + STONES + house("a", 4, 4) + told).house(0, 5), 0);
            }
        }
    }

    private static void doorsByHouses() {
        for (String share : new String[] {"yes", "no"}) {
            for (int side = 0; side < 4; side++) {
                String other = house("b", frontX(4, 1, side, 0), frontY(4, 1, side, 0));
                YearSkins x = Check.told(land(9, 9, "near", share) + house("a", 4, 4) + other);
                Check.refused(x, "a door to a core", x.build(0, 0, side, 0, 0), 5);
                Check.due("another side", x.build(0, 0, (side + 1) % 4, 0, 0), 24);
                Check.due("shut", Check.told(land(9, 9, "near", share) + house("a", 4, 4) + skin("a", "g", side, 0, 0) + other).house(0, 5), 1);
                Check.due("not shut", Check.told(land(9, 9, "near", share) + house("a", 4, 4) + skin("a", "g", (side + 2) % 4, 0, 0) + other).house(0, 5), 0);
            }
        }
    }

    private static void doorsBeyondTheLand() {
        YearSkins x = Check.told(land(9, 9, "near", "no") + house("a", 4, 4) + skins("a", "ooo"));
        Check.due("it fits", x.fits(0), 1);
        Check.due("no door can be", x.door(0), -2);
        Check.due("no room", x.room(0), 0);
        for (int side = 0; side < 4; side++) {
            for (int place = 0; place <= 6; place++) {
                Check.refused(x, "beyond the land", x.build(0, 3, side, place, 0), 5);
            }
            Check.refused(x, "beyond the side", x.build(0, 3, side, 7, 0), 2);
            YearSkins y = Check.told(land(9, 9, "near", "no") + house("a", 4, 4) + skins("a", "ooo") + skin("a", "o", side, 6, 0));
            Check.due("shut", y.house(0, 5), 1);
        }
        int[][] cores = {{4, 1}, {7, 4}, {4, 7}, {1, 4}};
        for (int side = 0; side < 4; side++) {
            YearSkins y = Check.told(land(9, 9, "near", "no") + house("a", cores[side][0], cores[side][1]));
            Check.refused(y, "beyond the " + SIDES[side], y.build(0, 3, side, 0, 0), 5);
            Check.due("within the land", y.build(0, 3, (side + 2) % 4, 0, 0), 8);
        }
    }

    private static void shut() {
        YearSkins x = Check.told(land(9, 5, "near", "no") + house("a", 2, 2) + skin("a", "o", 1, 0, 0) + house("b", 6, 2));
        Check.due("a core alone has no door", x.house(1, 5), 0);
        Check.due("free land ahead", x.house(0, 5), 0);
        Check.due("b builds beside it", x.build(1, 3, 1, 0, 0), 8);
        Check.due("one CELL is left", x.house(0, 5), 0);
        YearSkins y = Check.told(land(9, 5, "near", "no") + house("a", 2, 2) + skin("a", "o", 1, 0, 0) + house("b", 5, 2));
        Check.due("not yet", y.house(0, 5), 0);
        Check.due("b builds in front of it", y.build(1, 3, 1, 0, 0), 8);
        Check.due("shut in", y.house(0, 5), 1);
        // The outermost door alone counts.
        YearSkins z = Check.told(land(9, 5, "near", "no") + house("a", 2, 2) + skin("a", "o", 1, 0, 0) + skin("a", "o", 0, 0, 0));
        Check.due("beyond the land", z.house(0, 5), 1);
    }

    private static void lastDoor() {
        int[][] fronts = {{4, 2}, {6, 4}, {4, 6}, {2, 4}};
        for (String law : new String[] {"near", "far"}) {
            StringBuilder all = new StringBuilder();
            for (int side = 0; side < 4; side++) {
                StringBuilder water = new StringBuilder();
                for (int other = 0; other < 4; other++) {
                    water.append(other == side ? "" : ";water " + fronts[other][0] + "," + fronts[other][1]);
                }
                all.append(";water ").append(fronts[side][0]).append(",").append(fronts[side][1]);
                YearSkins x = Check.told("land wide 9 high 9 doors " + law + " share no" + water + STONES + house("a", 4, 4));
                Check.due("the last door", x.door(0), 100 * side);
            }
            YearSkins x = Check.told("land wide 9 high 9 doors " + law + " share no" + all + STONES + house("a", 4, 4));
            Check.due("it fits", x.fits(0), 1);
            Check.due("no door can be", x.door(0), -2);
            Check.due("no room", x.room(0), 0);
        }
    }

    /** SKIN 2 in the north-west corner of the land: its doors can be to the east and the south alone. */
    private static void sixDoors() {
        int[][] fronts = {{5, 1}, {5, 2}, {5, 3}, {1, 5}, {2, 5}, {3, 5}};
        int[] doors = {100, 101, 102, 200, 201, 202};
        for (String law : new String[] {"near", "far"}) {
            for (int free = 0; free <= 6; free++) {
                StringBuilder water = new StringBuilder();
                for (int i = 0; i < 6; i++) {
                    water.append(i == free ? "" : ";water " + fronts[i][0] + "," + fronts[i][1]);
                }
                YearSkins x = Check.told("land wide 9 high 9 doors " + law + " share no" + water + STONES + house("a", 2, 2) + skins("a", "g"));
                Check.due("the one that is free", x.door(0), free < 6 ? doors[free] : -2);
            }
        }
    }

    /** Of like WAYS the first, by SIDES and places. */
    private static void doorOfLikeWays() {
        for (int inner = 0; inner < 4; inner++) {
            int goal = FRONTS_OF_1[inner];
            int near = -2;
            int far = -2;
            int least = 99;
            int most = -1;
            for (int side = 0; side < 4; side++) {
                for (int place = 0; place < 3; place++) {
                    int round = Math.min(Math.abs(DOORS_OF_2[side][place] - goal), 16 - Math.abs(DOORS_OF_2[side][place] - goal));
                    near = round < least ? 100 * side + place : near;
                    least = Math.min(least, round);
                    far = round > most ? 100 * side + place : far;
                    most = Math.max(most, round);
                }
            }
            String houses = house("a", 4, 4) + skin("a", "g", inner, 0, 0);
            Check.due("straight on", near, 100 * inner + 1);
            Check.due("near", Check.told(land(9, 9, "near", "no") + houses).door(0), near);
            Check.due("far", Check.told(land(9, 9, "far", "no") + houses).door(0), far);
        }
        for (String law : new String[] {"near", "far"}) {
            Check.due("all are like", Check.told(land(9, 9, law, "no") + house("a", 4, 4)).door(0), 0);
            Check.due("the first is beyond the land", Check.told(land(9, 9, law, "no") + house("a", 4, 1)).door(0), 100);
            Check.due("the first two are", Check.told(land(9, 9, law, "no") + house("a", 7, 1)).door(0), 200);
        }
    }

    private static void costs() {
        String text = land(12, 12, "near", "no") + house("a", 6, 6);
        int[] each = {3, 2, 9, 1};
        for (int n = 0; n <= 5; n++) {
            YearSkins x = Check.told(text + skins("a", "ooooo".substring(0, n)));
            for (int s = 0; s < 4; s++) {
                Check.fine(x, "skin " + (n + 1) + " of stone " + s, x.costs(0, s), each[s] * 8 * (n + 1));
            }
            Check.refused(x, "no such stone", x.costs(0, 4), 1);
            Check.due("fits", x.fits(0), n < 5 ? 1 : 0);
            Check.due("room", x.room(0), 5 - n);
        }
    }

    private static void crowded() {
        for (int n = 0; n <= 5; n++) {
            int most = n == 0 ? 1 : 8 * n;
            for (int family = most - 1; family <= most + 1; family++) {
                String text = land(12, 12, "near", "no") + house("a", 6, 6).replace("family 0", "family " + family) + skins("a", "ooooo".substring(0, n));
                Check.due(family + " in " + n + " skins", Check.told(text).house(0, 6), family > most ? 1 : 0);
            }
        }
    }

    private static void warmthAndLight() {
        int[] light = {0, 0, 0, 3, 6, 9};
        int[] warm = {15, 15, 14, 10, 10, 9};
        YearSkins x = Check.told(land(12, 12, "near", "no") + house("a", 6, 6) + skins("a", "wgowf") + ";heir h a 0;heir i a 5");
        // Warm by 1, 4, 0, 1, 9.
        for (int r = 0; r <= 5; r++) {
            Check.fine(x, "light in " + r, x.light(0, r), light[r]);
            Check.fine(x, "warmth in " + r, x.warm(0, r), warm[r]);
        }
        Check.refused(x, "light in 6", x.light(0, 6), 1);
        Check.refused(x, "warmth in 6", x.warm(0, 6), 1);
        Check.fine(x, "heir in the core", x.heir(0, 2), 15);
        Check.fine(x, "heir in the outermost", x.heir(1, 2), 9);
        YearSkins y = Check.told(land(12, 12, "near", "no") + house("a", 6, 6) + ";heir h a 0");
        Check.fine(y, "warmth in a core alone", y.warm(0, 0), 0);
        Check.fine(y, "light in a core alone", y.light(0, 0), 9);
        Check.fine(y, "heir in a core alone", y.heir(0, 2), 0);
        Check.refused(y, "no skin", y.warm(0, 1), 1);
        Check.refused(y, "no skin", y.light(0, 1), 1);
    }

    private static void warmthOfWhatStands() {
        YearSkins x = Check.told(land(9, 9, "near", "no") + house("a", 4, 4) + skins("a", "gwf") + ";heir h a 1");
        x.fill(0, 2);
        Check.due("what is filled stands", x.warm(0, 0), 14);
        x.move(0, 0);
        x.take(0);
        Check.due("what is collapsed warms not", x.warm(0, 0), 10);
        Check.due("nor in itself", x.warm(0, 1), 10);
        Check.due("about it", x.warm(0, 2), 10);
        x.take(0);
        x.take(0);
        for (int r = 0; r <= 3; r++) {
            Check.due("nothing stands", x.warm(0, r), 0);
        }
        Check.due("light is as it was", x.light(0, 0), 0);
        Check.due("light is as it was", x.light(0, 1), 3);
    }

    private static void ways() {
        String text = land(9, 9, "near", "no") + house("a", 4, 4) + house("b", 0, 0) + skins("a", "ggg");
        YearSkins x = Check.told(text);
        int[] straight = {4, 3, 2, 1};
        for (int k = 0; k <= 3; k++) {
            Check.fine(x, "straight to " + k, x.way(0, k), straight[k]);
        }
        Check.fine(x, "0 without skins", x.way(1, 0), 0);
        for (int filled = 1; filled <= 3; filled++) {
            YearSkins y = Check.told(text);
            y.fill(0, filled);
            for (int k = 0; k <= 3; k++) {
                Check.fine(y, filled + " is filled, to " + k, y.way(0, k), k > filled ? straight[k] : -2);
            }
        }
        for (int taken = 1; taken <= 3; taken++) {
            x.take(0);
            for (int k = 0; k <= 3; k++) {
                Check.fine(x, taken + " are collapsed, to " + k, x.way(0, k), k > taken ? straight[k] : -2);
            }
        }
    }

    private static void roundAll() {
        for (int inner = 0; inner < 4; inner++) {
            for (int side = 0; side < 4; side++) {
                for (int place = 0; place < 3; place++) {
                    YearSkins x = Check.told(land(9, 9, "near", "no") + house("a", 4, 4) + skin("a", "g", inner, 0, 0) + skin("a", "g", side, place, 0));
                    int one = Math.abs(DOORS_OF_2[side][place] - FRONTS_OF_1[inner]);
                    int due = Math.min(one, 16 - one);
                    Check.fine(x, "round from " + side + " " + place + " to " + inner, x.round(0, 2), due);
                    Check.fine(x, "way", x.way(0, 0), due + 3);
                    Check.fine(x, "way", x.way(0, 1), due + 2);
                    Check.fine(x, "way", x.way(0, 2), 1);
                }
            }
        }
    }

    /** Doors in the middle of sides: straight through, by a quarter, by half of the round. */
    private static void halfRound() {
        int[] quarters = {0, 1, 2, 1};
        for (int inner = 0; inner < 4; inner++) {
            for (int outer = 0; outer < 4; outer++) {
                StringBuilder text = new StringBuilder(land(12, 12, "near", "no") + house("a", 6, 6));
                int way = 1;
                for (int r = 1; r <= 5; r++) {
                    text.append(skin("a", "o", r % 2 == 0 ? inner : outer, r - 1, 0));
                    way += 1 + (r > 1 ? 2 * r * quarters[(outer - inner + 4) % 4] : 0);
                }
                YearSkins x = Check.told(text.toString());
                for (int r = 2; r <= 5; r++) {
                    Check.fine(x, "round in " + r, x.round(0, r), 2 * r * quarters[(outer - inner + 4) % 4]);
                }
                Check.fine(x, "way", x.way(0, 0), way);
            }
        }
    }

    private static void locksAndWalls() {
        int[][] stones = {{2, 99}, {1, 5}, {3, 1}};
        String[] names = {"g", "w", "f", "o"};
        for (int[] stone : stones) {
            int strong = stone[1];
            for (int lock : new int[] {0, strong - 2, strong - 1, strong, 98, 99}) {
                if (lock >= 0 && lock <= 99) {
                    YearSkins x = Check.told(land(9, 9, "near", "no") + house("a", 4, 4) + skin("a", names[stone[0]], 2, 0, lock));
                    Check.fine(x, "lock " + lock + " strong " + strong, x.through(0, 1), Math.min(lock + 1, strong));
                    Check.fine(x, "breaks", x.breaks(0, 1), lock + 1 <= strong ? 0 : 1);
                    Check.fine(x, "to the core 1 more", x.through(0, 0), Math.min(lock + 1, strong) + 1);
                    Check.fine(x, "no wall more", x.breaks(0, 0), lock + 1 <= strong ? 0 : 1);
                }
            }
        }
        YearSkins x = Check.told(land(9, 9, "near", "no") + house("a", 4, 4));
        Check.fine(x, "0 without skins", x.through(0, 0), 0);
        Check.fine(x, "no walls", x.breaks(0, 0), 0);
    }

    private static void rotInWalls() {
        YearSkins x = Check.told(land(9, 9, "near", "no").replace("strong 5", "strong 2") + house("a", 4, 4).replace("family 0 gold 999", "family 1 gold 0")
                + skin("a", "g", 2, 0, 99));
        for (int year = 0; year < 30; year++) {
            Check.due("strong 30 less " + year, x.through(0, 1), 30 - year);
            Check.due("by its wall", x.breaks(0, 1), 1);
            x.years(1);
            if (year == 28) {
                Check.due("1 at least", x.through(0, 1), 1);
                Check.due("by its wall", x.breaks(0, 1), 1);
                Check.due("it stands", x.skin(0, 1, 5), 0);
            }
        }
        Check.due("collapsed", x.skin(0, 1, 5), 1);
        Check.due("1 by its door", x.through(0, 1), 1);
        Check.due("no wall", x.breaks(0, 1), 0);
    }

    private static void filledAndCollapsed() {
        for (String stone : new String[] {"o", "f"}) {
            for (int lock : new int[] {0, 18, 19, 20, 99}) {
                String text = land(9, 9, "near", "no") + house("a", 4, 4) + skin("a", stone, 1, 0, lock);
                YearSkins x = Check.told(text);
                x.fill(0, 1);
                Check.fine(x, "20 if filled", x.through(0, 1), 20);
                Check.fine(x, "by its door", x.breaks(0, 1), 0);
                Check.fine(x, "21 to the core", x.through(0, 0), 21);
                x.take(0);
                Check.fine(x, "1 if collapsed", x.through(0, 1), 1);
                Check.fine(x, "by its door", x.breaks(0, 1), 0);
                Check.fine(x, "2 to the core", x.through(0, 0), 2);
            }
        }
    }

    /** The door to the south lies half a round away; outside one can't go there. */
    private static void stayingOutside() {
        YearSkins x = Check.told(land(9, 9, "near", "no") + house("a", 4, 4) + skin("a", "f", 2, 0, 0) + skin("a", "o", 0, 1, 0));
        Check.fine(x, "in, half round, in", x.through(0, 1), 1 + 8 + 1);
        Check.fine(x, "no wall", x.breaks(0, 1), 0);
        YearSkins y = Check.told(land(9, 9, "near", "no") + house("a", 4, 4) + skin("a", "g", 2, 0, 21) + skin("a", "o", 0, 1, 0));
        Check.fine(y, "strong 30 against 8 and 22", y.through(0, 1), 1 + 30);
        Check.fine(y, "by as many minutes no wall", y.breaks(0, 1), 0);
        y.lock(0, 1, 22);
        Check.fine(y, "strong 30 against 8 and 23", y.through(0, 1), 1 + 30);
        Check.fine(y, "one wall", y.breaks(0, 1), 1);
        y.lock(0, 1, 20);
        Check.fine(y, "strong 30 against 8 and 21", y.through(0, 1), 1 + 29);
        Check.fine(y, "no wall", y.breaks(0, 1), 0);
    }

    /** Walls too strong to be worth it: by doors, the fewer places round, about place 0 too. */
    private static void throughByDoors() {
        for (int inner = 0; inner < 4; inner++) {
            for (int side = 0; side < 4; side++) {
                for (int place = 0; place < 3; place++) {
                    YearSkins x = Check.told(land(9, 9, "near", "no") + house("a", 4, 4) + skin("a", "f", inner, 0, 3) + skin("a", "f", side, place, 5));
                    int one = Math.abs(DOORS_OF_2[side][place] - FRONTS_OF_1[inner]);
                    int round = Math.min(one, 16 - one);
                    Check.fine(x, "through to 2", x.through(0, 2), 6);
                    Check.fine(x, "through to 1", x.through(0, 1), 6 + round + 4);
                    Check.fine(x, "through to the core", x.through(0, 0), 6 + round + 5);
                    Check.fine(x, "no wall", x.breaks(0, 0), 0);
                    // The wall of SKIN 1 on the same side as the outer door, as soon as it is worth it.
                    x.lock(0, 1, 99);
                    Check.fine(x, "through the wall", x.through(0, 1), 6 + (place == 1 ? 0 : 1) + 99);
                    Check.fine(x, "one wall", x.breaks(0, 1), 1);
                }
            }
        }
    }

    /** From each door of SKIN 3, whose places are 24, to each of SKIN 2. */
    private static void throughTheThird() {
        int[][] doorsOf3 = {{1, 2, 3, 4, 5}, {7, 8, 9, 10, 11}, {17, 16, 15, 14, 13}, {23, 22, 21, 20, 19}};
        int[][] frontsOf2 = {{2, 3, 4}, {8, 9, 10}, {16, 15, 14}, {22, 21, 20}};
        for (int outer = 0; outer < 20; outer++) {
            for (int inner = 0; inner < 12; inner++) {
                int one = Math.abs(doorsOf3[outer / 5][outer % 5] - frontsOf2[inner / 3][inner % 3]);
                int round = Math.min(one, 24 - one);
                YearSkins x = Check.told(land(9, 9, "near", "no") + house("a", 4, 4) + skin("a", "f", 0, 0, 0)
                        + skin("a", "f", inner / 3, inner % 3, 2) + skin("a", "f", outer / 5, outer % 5, 1));
                Check.fine(x, "round in 3", x.round(0, 3), round);
                Check.fine(x, "through to 3", x.through(0, 3), 2);
                Check.fine(x, "through to 2", x.through(0, 2), 2 + round + 3);
                int next = Math.abs(DOORS_OF_2[inner / 3][inner % 3] - FRONTS_OF_1[0]);
                Check.fine(x, "through to 1", x.through(0, 1), 2 + round + 3 + Math.min(next, 16 - next) + 1);
            }
        }
    }

    private static void fewestWalls() {
        // Three walls of 1 each, doors with lock 0 straight on: as many minutes by doors.
        YearSkins x = Check.told(land(9, 9, "near", "no") + house("a", 4, 4) + skins("a", "ooo"));
        Check.fine(x, "straight", x.through(0, 0), 4);
        Check.fine(x, "by doors", x.breaks(0, 0), 0);
        for (int r = 1; r <= 3; r++) {
            x.lock(0, r, 1);
            Check.fine(x, "straight", x.through(0, 0), 4);
            Check.fine(x, "through walls", x.breaks(0, 0), r);
        }
        Check.fine(x, "to 1", x.breaks(0, 1), 3);
        Check.fine(x, "to 2", x.breaks(0, 2), 2);
        Check.fine(x, "to 3", x.breaks(0, 3), 1);
        Check.fine(x, "minutes to 3", x.through(0, 3), 1);
    }

    private static void led() {
        String row = land(12, 3, "near", "no") + house("a", 1, 1) + house("b", 4, 1) + house("c", 7, 1) + house("d", 10, 1);
        String all = row + skin("a", "o", 0, 0, 0) + skin("b", "o", 0, 0, 0) + skin("c", "o", 2, 0, 0) + skin("d", "o", 1, 0, 0);
        YearSkins x = Check.told(all);
        for (int i = 0; i < 4; i++) {
            Check.due("led " + i, Check.led(x, i), i);
        }
        for (int out : new int[] {Integer.MIN_VALUE, -1, 4, Integer.MAX_VALUE}) {
            Check.due("led " + out, Check.led(x, out), -1);
        }
        YearSkins y = Check.told(row + skin("b", "o", 0, 0, 0) + skin("d", "o", 0, 0, 0));
        Check.due("the first", Check.led(y, 0), 1);
        Check.due("the second", Check.led(y, 1), 3);
        Check.due("no third", Check.led(y, 2), -1);
        YearSkins z = Check.told(row);
        Check.due("none", Check.led(z, 0), -1);
        Check.due("none without a land", Check.led(new YearSkins(), 0), -1);
    }

    private static void sizes() {
        YearSkins none = new YearSkins();
        YearSkins x = Check.told(land(3, 12, "far", "yes") + house("a", 0, 0) + ";heir h a 0;heir i a 0;heir j a 0; wall p; wall q");
        int[] due = {3, 12, 1, 1, 4, 1, 3, 2, 5, 0, 0, 0, 0};
        for (int what = 0; what <= 12; what++) {
            Check.due("size " + what, x.size(what), due[what]);
            Check.due("size without a land " + what, none.size(what), 0);
        }
        for (int out : new int[] {Integer.MIN_VALUE, -1, 13, Integer.MAX_VALUE}) {
            Check.due("size " + out, x.size(out), -1);
            Check.due("size without a land " + out, none.size(out), -1);
        }
        none.feed(1, 2, 3, 4, 5);
        Check.due("bytes without a land", none.size(12), 20);
    }
}
