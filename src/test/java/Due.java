/** What the tests share: answers that are due, and texts put onto the tape. */
final class Due {
    private static int wrong = 0;
    private static int looks = 0;

    private Due() {
    }

    static void is(String call, long got, long want) {
        looks++;
        if (got != want) {
            wrong++;
            System.out.println(call + " answered " + got + ", due is " + want);
        }
    }

    static void holds(String what, boolean truth) {
        looks++;
        if (!truth) {
            wrong++;
            System.out.println("does not hold: " + what);
        }
    }

    /** Puts a text onto an empty tape. */
    static void tape(SlateQuarry x, String text) {
        for (int i = 0; i < text.length(); i += 8) {
            long eight = 0;
            for (int k = i; k < i + 8; k++) {
                eight = eight << 8 | (k < text.length() ? text.charAt(k) : 0);
            }
            is("feed of " + text, x.feed(eight), i + 8);
        }
        is("end of " + text, x.end(text.length()), (text.length() + 7) / 8 * 8);
    }

    /** Tells laws that have no fault. */
    static void laws(SlateQuarry x, String text, int howMany) {
        tape(x, text);
        is("laws of '" + text + "'", x.laws(), howMany);
        is("fault of '" + text + "'", x.fault(), 0);
    }

    /** Tells laws that have a fault. */
    static void fault(SlateQuarry x, String text, int fault, int place) {
        tape(x, text);
        is("laws of '" + text + "'", x.laws(), -10 - place);
        is("fault of '" + text + "'", x.fault(), fault);
        is("tape behind '" + text + "'", x.end(0), 0);
    }

    static void end() {
        System.out.println(looks + " looks, " + wrong + " wrong");
        if (wrong != 0) {
            System.exit(1);
        }
    }
}
