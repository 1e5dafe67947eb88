/** Part IV, and promises 4, 5 and 50: TROUBLE is of the latest call of which a number is told; all other calls leave it. */
public final class TroubleTest {
    /** House a is SHUT, b is not and has no gold. */
    private static final String LAND = "land wide 9 high 5 doors near share no;years 10 births 0 fire 0 earns 0"
            + ";stone g hard costs 1 warm 1 rots 0 strong 9;house a at 1,1 of g family 0 gold 0;house b at 6,2 of g family 0 gold 0"
            + ";skin a g north 0 lock 4;skin b g north 0 lock 4";
    private static final String FAULTY = "land wide 99";
    private static final int PLACE_OF_FAULT = 10;

    public static void main(String[] args) {
        for (int trouble = 0; trouble <= 6; trouble++) {
            leftByTheTape(trouble);
            leftByFaultAndWhere(trouble);
            leftByLed(trouble);
            leftBySize(trouble);
            leftByTrouble(trouble);
            for (int next = 0; next <= 6; next++) {
                ofTheLatest(trouble, next);
            }
        }
        ofANewObject();
        Check.end();
    }

    /** A told LAND whose latest call was refused by that number, or by none. */
    private static YearSkins inTrouble(int trouble) {
        YearSkins x = Check.told(LAND);
        x.mark();
        x.mark();
        x.mark();
        meet(x, trouble);
        return x;
    }

    private static void meet(YearSkins x, int trouble) {
        switch (trouble) {
            case 0:
                Check.due("free", x.free(), 45 - 18);
                break;
            case 1:
                Check.due("fits", x.fits(2), -1);
                break;
            case 2:
                Check.due("years", x.years(0), -1);
                break;
            case 3:
                Check.due("mark", x.mark(), -1);
                break;
            case 4:
                Check.due("land", Check.tell(x, FAULTY), -1);
                break;
            case 5:
                Check.due("lock", x.lock(0, 1, 4), false);
                break;
            default:
                Check.due("build", x.build(1, 0, 3, 0, 0), -1);
                break;
        }
        isLeft("a call refused by " + trouble, x, trouble);
    }

    private static void isLeft(String by, YearSkins x, int trouble) {
        Check.due("trouble " + trouble + " by " + by, x.trouble(), trouble);
        Check.due("where of trouble " + trouble + " by " + by, x.where(), trouble == 4 ? PLACE_OF_FAULT : -1);
        Check.due("fault of trouble " + trouble + " by " + by, x.fault(), trouble == 4 ? 4 : 0);
    }

    private static void leftByTheTape(int trouble) {
        YearSkins x = inTrouble(trouble);
        for (int fed = 20; fed <= 1000; fed += 20) {
            Check.due("feed", x.feed(0, 0, 0, 0, 0), fed);
            isLeft("feed", x, trouble);
        }
        Check.due("feed beyond 1,000", x.feed(0, 0, 0, 0, 0), -1);
        isLeft("feed beyond 1,000", x, trouble);
    }

    private static void leftByFaultAndWhere(int trouble) {
        YearSkins x = inTrouble(trouble);
        x.fault();
        x.fault();
        isLeft("fault", x, trouble);
        x.where();
        x.where();
        isLeft("where", x, trouble);
    }

    private static void leftByLed(int trouble) {
        YearSkins x = inTrouble(trouble);
        Check.due("led", Check.led(x, 0), 0);
        isLeft("led", x, trouble);
        Check.due("led by none such", Check.led(x, 1), -1);
        isLeft("led by none such", x, trouble);
    }

    private static void leftBySize(int trouble) {
        YearSkins x = inTrouble(trouble);
        for (int what = -1; what <= 13; what++) {
            Check.due("size " + what, x.size(what) == -1, what < 0 || what > 12);
            isLeft("size " + what, x, trouble);
        }
    }

    private static void leftByTrouble(int trouble) {
        YearSkins x = inTrouble(trouble);
        x.trouble();
        x.trouble();
        isLeft("trouble", x, trouble);
    }

    /** One refusal behind another: the latest is told; the FAULT stays that of the latest land(). */
    private static void ofTheLatest(int trouble, int next) {
        YearSkins x = inTrouble(trouble);
        if (trouble != 4) {
            meet(x, next);
        } else if (next != 4) {
            Check.due("free behind a fault", x.free(), 45 - 18);
            Check.due("trouble behind a fault", x.trouble(), 0);
            Check.due("where behind a fault", x.where(), -1);
            Check.due("fault behind a fault", x.fault(), 4);
        }
    }

    private static void ofANewObject() {
        YearSkins x = new YearSkins();
        Check.due("trouble", x.trouble(), 0);
        Check.due("fault", x.fault(), 0);
        Check.due("where", x.where(), -1);
        x.feed(0, 0, 0, 0, 0);
        Check.led(x, 0);
        x.size(13);
        Check.due("trouble of calls that tell no number", x.trouble(), 0);
        Check.refused(x, "land beyond the tape", x.land(21), 2);
        Check.due("where by 2", x.where(), -1);
        Check.due("fault by 2", x.fault(), 0);
    }
}
