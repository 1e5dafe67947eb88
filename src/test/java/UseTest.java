import java.lang.management.ManagementFactory;
import java.lang.reflect.Method;
import java.util.function.ToIntFunction;

/** "What it is": 512 calls of one object, the room that they take, objects that know nothing of each other. */
public final class UseTest {
    private static final int CALLS = 512;

    private static final String LAND = "land wide 12 high 12 doors far share yes;years 900 births 40 fire 10 earns 9;water 11,0"
            + ";stone g hard costs 1 warm 3 rots 1 strong 30;stone w wood costs 2 warm 1 rots 0 strong 5"
            + ";house a at 3,3 of g family 50 gold 500;house b at 8,3 of w family 9 gold 930"
            + ";house c at 3,8 of g family 30 gold 900;house d at 8,8 of w family 20 gold 999"
            + ";skin a g north 0 lock 4;skin a w south 1 lock 2;heir h a 1;heir i b 0"
            + ";wall p;wall q;wall r;wall s;wall t;wall u;older p q;coin r 5;smell s 600";

    public static void main(String[] args) {
        dearestCallsToTheLast();
        actsToTheLast();
        noRoomForMore();
        objectsApart();
        sameAgain();
        Check.end();
    }

    /** The calls that look at most; none changes the LAND. */
    private static int dear(YearSkins x, int i) {
        switch (i % 12) {
            case 0:
                return x.first(30);
            case 1:
                return x.firstAt(30, i % 4);
            case 2:
                return x.in(i % 4, 60, i % 5);
            case 3:
                return x.skinsIn(60);
            case 4:
                return x.meet(0, 3, 60);
            case 5:
                return x.falls(0, 2, 60);
            case 6:
                return x.heads(65536 - i, 60);
            case 7:
                return x.orders();
            case 8:
                return x.order(i % 60, i % 6);
            case 9:
                return x.latest(i % 6);
            case 10:
                return x.through(0, 0);
            default:
                return x.room(i % 4);
        }
    }

    /** How many calls Check.told needs to tell the LAND. */
    private static int callsToTell() {
        return (LAND.length() + 19) / 20 + 1;
    }

    private static void dearestCallsToTheLast() {
        YearSkins x = Check.told(LAND);
        for (int call = callsToTell(); call < CALLS; call++) {
            Check.due("call " + call, dear(x, call), dear(Check.told(LAND), call));
        }
    }

    private static boolean lockOrUndo(YearSkins x, int call) {
        return call % 3 == 2 ? x.undo() : x.lock(0, 1, call % 100);
    }

    /** Two locks, one of them undone, again and again: more ACTS than are kept, to the last call. */
    private static void actsToTheLast() {
        YearSkins x = Check.told(LAND);
        int kept = 0;
        for (int call = callsToTell(); call < CALLS - 4; call++) {
            Check.due("act " + call, lockOrUndo(x, call), true);
            kept = call % 3 == 2 ? kept - 1 : Math.min(10, kept + 1);
        }
        Check.due("acts", x.size(10), kept);
        Check.due("mark", x.mark(), 0);
        Check.due("back", x.back(0), true);
        Check.due("acts behind it", x.size(10), 0);
    }

    /** What the thread has made so far, in bytes; -1 where the machine can't tell. */
    private static long made() {
        try {
            Class<?> bean = Class.forName("com.sun.management.ThreadMXBean");
            Method bytes = bean.getMethod("getThreadAllocatedBytes", long.class);
            return (long) bytes.invoke(ManagementFactory.getThreadMXBean(), Thread.currentThread().getId());
        } catch (ReflectiveOperationException | IllegalArgumentException e) {
            return -1;
        }
    }

    /** All calls of a run live in one room, so no call makes an object; what is made here is made by asking. */
    private static void noRoomForMore() {
        YearSkins x = Check.told(LAND);
        useAll(x);
        made();
        long before = made();
        useAll(x);
        long behind = made();
        Check.due("bytes made by " + CALLS + " calls, " + (behind - before) + ", are few", behind - before < 20 * CALLS, true);
    }

    private static void useAll(YearSkins x) {
        for (int call = 0; call < CALLS; call++) {
            dear(x, call);
            x.years(call % 2);
            x.build(call % 4, 0, call % 4, 0, 9);
            x.fill(call % 4, 1);
            x.take(call % 4);
            x.move(0, call % 3);
            x.give(0, 1, 1);
            x.seed(call);
            x.mark();
            x.back(call % 3);
            x.undo();
            x.feed(call, call, call, call, call);
            x.land(10);
        }
    }

    private static void both(YearSkins x, YearSkins y, ToIntFunction<YearSkins> onX, ToIntFunction<YearSkins> onY) {
        onX.applyAsInt(x);
        onY.applyAsInt(y);
    }

    /** Two objects used by turns are as two that are used one behind the other. */
    private static void objectsApart() {
        String other = LAND.replace("far share yes;years 900", "near share no;years 7").replace(";skin a w south 1 lock 2", "");
        YearSkins x = new YearSkins();
        YearSkins y = new YearSkins();
        Check.feed(x, LAND);
        Check.feed(y, other);
        both(x, y, o -> o.land(LAND.length()), o -> o.land(other.length()));
        both(x, y, o -> o.years(5), o -> o.years(3));
        both(x, y, o -> o.mark(), o -> o.take(0));
        both(x, y, o -> o.land(0), o -> o.free());
        both(x, y, o -> o.give(0, 1, 1) ? 1 : 0, o -> o.seed(9) ? 1 : 0);
        both(x, y, o -> o.first(3), o -> o.fits(9));
        Check.due("trouble of the one", x.trouble(), 0);
        Check.due("trouble of the other", y.trouble(), 1);
        Check.due("fault of the one", x.fault(), 1);
        Check.due("fault of the other", y.fault(), 0);

        YearSkins first = Check.told(LAND);
        first.years(5);
        first.mark();
        first.give(0, 1, 1);
        Check.same("the one", Seen.withPast(x), Seen.withPast(first));
        YearSkins second = Check.told(other);
        second.years(3);
        second.take(0);
        second.seed(9);
        Check.same("the other", Seen.withPast(y), Seen.withPast(second));
    }

    private static void sameAgain() {
        YearSkins x = Check.told(LAND);
        YearSkins y = Check.told(LAND);
        for (int i = 0; i < 4; i++) {
            Check.due("years", x.years(20), y.years(20));
        }
        Check.same("all", Seen.withPast(x), Seen.withPast(y));
    }
}
