import java.util.NoSuchElementException;

/** Counts answers that are not as due, and tells texts to new objects. */
final class Check {
    private static int wrong = 0;

    private Check() {
    }

    static void due(String what, long got, long want) {
        if (got != want) {
            wrong++;
            if (wrong <= 50) {
                System.out.println(what + " answered " + got + ", due is " + want);
            }
        }
    }

    static void due(String what, boolean got, boolean want) {
        due(what, got ? 1 : 0, want ? 1 : 0);
    }

    static void same(String what, String got, String want) {
        due(what + " tells\n  " + got + "\ndue is\n  " + want + "\n  likeness", got.equals(want), true);
    }

    /** An int call that is refused: NONE, and its TROUBLE. */
    static void refused(YearSkins x, String what, int got, int trouble) {
        due(what, got, YearSkins.NONE);
        due(what + " trouble", x.trouble(), trouble);
    }

    static void refused(YearSkins x, String what, boolean got, int trouble) {
        due(what, got, false);
        due(what + " trouble", x.trouble(), trouble);
    }

    static void fine(YearSkins x, String what, int got, int want) {
        due(what, got, want);
        due(what + " trouble", x.trouble(), 0);
    }

    static void fine(YearSkins x, String what, boolean got) {
        due(what, got, true);
        due(what + " trouble", x.trouble(), 0);
    }

    /** The answer of led, or NONE if it throws what it should. */
    static int led(YearSkins x, int i) {
        try {
            return x.led(i);
        } catch (NoSuchElementException e) {
            return YearSkins.NONE;
        }
    }

    /** Feeds a text (chars are bytes), blanks behind it. */
    static void feed(YearSkins x, String text) {
        for (int at = 0; at < text.length(); at += 20) {
            int[] five = new int[5];
            for (int i = 0; i < 20; i++) {
                int sign = at + i < text.length() ? text.charAt(at + i) : ' ';
                five[i / 4] = five[i / 4] << 8 | sign;
            }
            x.feed(five[0], five[1], five[2], five[3], five[4]);
        }
    }

    static int tell(YearSkins x, String text) {
        feed(x, text);
        return x.land(text.length());
    }

    static YearSkins told(String text) {
        YearSkins x = new YearSkins();
        int houses = tell(x, text);
        if (houses < 1) {
            due("land of [" + text + "], fault " + x.fault() + " at " + x.where(), houses, 1);
        }
        return x;
    }

    /** A text's FAULT and its place: 1000 times the FAULT and the place; 0 without. */
    static void fault(String text, int fault, int place) {
        YearSkins x = new YearSkins();
        int got = tell(x, text);
        due("land of [" + text + "]", got, YearSkins.NONE);
        due("trouble of [" + text + "]", x.trouble(), 4);
        due("fault of [" + text + "]", x.fault(), fault);
        due("where of [" + text + "]", x.where(), place);
        due("size(0) behind [" + text + "]", x.size(0), 0);
    }

    /** The FAULT is at the last TOKEN of the text, which begins behind its last blank, comma or semicolon. */
    static void faultAtLast(String text, int fault) {
        int at = text.length();
        while (at > 0 && " ,;".indexOf(text.charAt(at - 1)) < 0) {
            at--;
        }
        fault(text, fault, at);
    }

    static void end() {
        String name = new Throwable().getStackTrace()[1].getClassName();
        System.out.println(wrong == 0 ? name + ": all answers are as due" : name + ": " + wrong + " answers are not as due");
        if (wrong != 0) {
            System.exit(1);
        }
    }
}
