import java.util.Random;

/** Whatever the numbers, and in whatever state: nothing is thrown but by led, and each answer is told by its TROUBLE. */
public final class SturdyTest {
    private static final int[] ODD = {Integer.MIN_VALUE, Integer.MIN_VALUE + 1, -65537, -100, -2, -1, 7, 12, 60, 61, 99, 100,
        719, 720, 999, 1000, 65536, 65537, 268435456, 536870912, Integer.MAX_VALUE - 1, Integer.MAX_VALUE};

    private final Random random;
    private final YearSkins x = new YearSkins();

    private SturdyTest(long number) {
        random = new Random(number);
    }

    public static void main(String[] args) {
        for (long number = 0; number < 3000; number++) {
            SturdyTest test = new SturdyTest(number);
            if (number % 5 != 0) {
                Check.tell(test.x, new Lands(number).text.toString());
            }
            try {
                for (int i = 0; i < 400; i++) {
                    test.call(random(test.random, 44));
                }
            } catch (RuntimeException e) {
                Check.due("object " + number + " throws " + e + " " + e.getStackTrace()[0], 1, 0);
            }
        }
        Check.end();
    }

    private static int random(Random random, int below) {
        return random.nextInt(below);
    }

    private int any() {
        return random.nextInt(4) == 0 ? ODD[random.nextInt(ODD.length)] : random.nextInt(6);
    }

    private void call(int which) {
        int got = which < 16 ? callNow(which) : which < 32 ? callFuture(which) : callAct(which);
        boolean refused = x.trouble() != 0;
        if (which != 43) {
            Check.due("call " + which + " with trouble " + x.trouble(), got == -1, refused);
        }
    }

    private int callNow(int which) {
        switch (which) {
            case 0:
                return x.whose(any(), any());
            case 1:
                return x.shared();
            case 2:
                return x.free();
            case 3:
                return x.house(any(), any());
            case 4:
                return x.skin(any(), any(), any());
            case 5:
                return x.warm(any(), any());
            case 6:
                return x.light(any(), any());
            case 7:
                return x.heir(any(), any());
            case 8:
                return x.fits(any());
            case 9:
                return x.door(any());
            case 10:
                return x.costs(any(), any());
            case 11:
                return x.way(any(), any());
            case 12:
                return x.through(any(), any());
            case 13:
                return x.breaks(any(), any());
            case 14:
                return x.round(any(), any());
            default:
                return x.in(any(), any(), any());
        }
    }

    private int callFuture(int which) {
        switch (which) {
            case 16:
                return x.skinsIn(any());
            case 17:
                return x.meet(any(), any(), any());
            case 18:
                return x.falls(any(), any(), any());
            case 19:
                return x.room(any());
            case 20:
                return x.first(any());
            case 21:
                return x.firstAt(any(), any());
            case 22:
                return x.heads(any(), any());
            case 23:
                return x.takes(any());
            case 24:
                return x.worth(any());
            case 25:
                return x.orders();
            case 26:
                return x.order(any(), any());
            case 27:
                return x.soonest(any());
            case 28:
                return x.latest(any());
            case 29:
                return x.surely(any(), any());
            case 30:
                return x.stone(any(), any());
            default:
                return x.years(any());
        }
    }

    private int callAct(int which) {
        switch (which) {
            case 32:
                return x.build(any(), any(), any(), any(), any());
            case 33:
                return x.fill(any(), any()) ? 1 : -1;
            case 34:
                return x.take(any());
            case 35:
                return x.lock(any(), any(), any()) ? 1 : -1;
            case 36:
                return x.move(any(), any()) ? 1 : -1;
            case 37:
                return x.give(any(), any(), any()) ? 1 : -1;
            case 38:
                return x.seed(any()) ? 1 : -1;
            case 39:
                return x.undo() ? 1 : -1;
            case 40:
                return x.mark();
            case 41:
                return x.back(any()) ? 1 : -1;
            case 42:
                x.feed(any(), any(), any(), any(), any());
                return x.land(any());
            default:
                Check.led(x, any());
                x.size(any());
                x.fault();
                return x.where();
        }
    }
}
