/** What the tests share: answers that are due, numbers out of bounds, and texts put onto the tape. */
final class Due {
    static final int BAD = -1, STATE = -2, FULL = -3, NONE = -4;
    static final int FAR_BAD = -1000000, FAR_STATE = -1000002;
    static final int NULL = -11, INDEX = -12, CAST = -13, SIZE = -14;
    static final int RUBBISH = -5;

    private static int wrong = 0;
    private static int looks = 0;

    private Due() {
    }

    static void is(String call, long got, long want) {
        looks++;
        if (got != want) {
            wrong++;
            System.out.println(call + " answered " + got + ", due is " + want);
        }
    }

    static void holds(String what, boolean truth) {
        looks++;
        if (!truth) {
            wrong++;
            System.out.println("does not hold: " + what);
        }
    }

    /** Numbers outside a range: beside its ends, the farthest, and some that fewer bits would bring into it. */
    static int[] outside(int least, int greatest) {
        return java.util.stream.LongStream.of(least - 1L, greatest + 1L, Integer.MIN_VALUE, Integer.MAX_VALUE,
                least + 256L, least - 256L, least + 65536L, least - 65536L)
                .filter(n -> n < least || n > greatest).mapToInt(n -> (int) n).toArray();
    }

    /** The first eight bytes of a text, blanks behind it if it is shorter. */
    static long eight(String text) {
        long bytes = 0;
        for (int i = 0; i < 8; i++) {
            bytes = bytes << 8 | (i < text.length() ? text.charAt(i) : ' ');
        }
        return bytes;
    }

    /** Puts a text onto an empty tape. */
    static void tape(SlateQuarry x, String text) {
        for (int i = 0; i < text.length(); i += 8) {
            is("feed of '" + text + "'", x.feed(eight(text.substring(i))), i + 8);
        }
        is("end of '" + text + "'", x.end(text.length()), (text.length() + 7) / 8 * 8);
    }

    /** Tells laws that have no fault. */
    static void laws(SlateQuarry x, String text, int howMany) {
        tape(x, text);
        is("laws of '" + text + "'", x.laws(), howMany);
        is("fault of '" + text + "'", x.fault(), 0);
    }

    /** Tells laws that have a fault. */
    static void fault(SlateQuarry x, String text, int fault, int place) {
        tape(x, text);
        is("laws of '" + text + "'", x.laws(), -10 - place);
        is("fault of '" + text + "'", x.fault(), fault);
    }

    /** Tells laws that have a fault to a new object. */
    static void fault(String text, int fault, int place) {
        fault(new SlateQuarry(), text, fault, place);
    }

    static void end() {
        System.out.println(looks + " looks, " + wrong + " wrong");
        if (wrong != 0) {
            System.exit(1);
        }
    }
}
