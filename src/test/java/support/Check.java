/** What the tests ask of the class; each test ends with {@link #end}. */
final class Check {
    interface Call {
        long run();
    }

    private static int made = 0;
    private static int wrong = 0;
    private static String under = "";

    private Check() {
    }

    static int made() {
        return made;
    }

    /** The words that stand ahead of what is told from now on. */
    static void under(String words) {
        under = words.isEmpty() ? "" : words + ": ";
    }

    private static void tell(String what) {
        wrong++;
        System.out.println(under + what);
    }

    static void same(String what, long got, long due) {
        made++;
        if (got != due) {
            tell(what + " answered " + got + ", due is " + due);
        }
    }

    static void isTrue(String what, boolean holds) {
        same(what + " (1: it holds)", holds ? 1 : 0, 1);
    }

    /** The very class is asked for, as the machine's own exceptions are subclasses of those that the document names. */
    static void fails(String what, Class<? extends Exception> kind, Call call) {
        made++;
        try {
            long got = call.run();
            tell(what + " answered " + got + ", due is " + kind.getSimpleName());
        } catch (RuntimeException e) {
            if (e.getClass() != kind) {
                tell(what + " threw " + e + ", due is " + kind.getSimpleName());
            }
        }
    }

    static void passes(String what, Call call) {
        made++;
        try {
            call.run();
        } catch (RuntimeException e) {
            tell(what + " threw " + e);
        }
    }

    static void noZone(String what, Call call) {
        fails(what, IndexOutOfBoundsException.class, call);
    }

    static void noRange(String what, Call call) {
        fails(what, IllegalArgumentException.class, call);
    }

    static void notNow(String what, Call call) {
        fails(what, IllegalStateException.class, call);
    }

    static void write(CableLanding x, String text) {
        x.clearText();
        for (int i = 0; i < text.length(); i++) {
            x.append(text.charAt(i));
        }
    }

    static CableLanding loaded(String text) {
        CableLanding x = new CableLanding();
        write(x, text);
        same("errorPosition of " + text, x.errorPosition(), CableLanding.NONE);
        x.load();
        return x;
    }

    /** What can be asked for without changing anything, in one row; forecasts, too, as they show how teams rest. */
    static String all(CableLanding x) {
        StringBuilder row = Story.numbers(x);
        for (int day = 0; day < 60; day++) {
            row.append(x.waves(day));
        }
        for (int m = 0; m <= 99; m = 2 * m + 1) {
            for (int what = 0; what <= 4; what++) {
                row.append(' ').append(x.ahead(m, what));
            }
        }
        return row.toString();
    }

    static void unchanged(String what, CableLanding x, String before) {
        isTrue(what + " changes nothing", all(x).equals(before));
    }

    static void end() {
        System.out.println(made + " checks, " + wrong + " wrong");
        if (wrong != 0 || made == 0) {
            System.exit(1);
        }
    }
}
