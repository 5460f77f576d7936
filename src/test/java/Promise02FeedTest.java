/** Promise 2, feed: "Eight bytes come behind THE TAPE, the highest first: how many it has. FULL: more than 200." */
public final class Promise02FeedTest {
    public static void main(String[] args) {
        theHighestByteIsFirst();
        bytesComeBehindTheTape();
        bytesComeBehindWhatEndKept();
        bytesAbove127AreBytes();
        twoHundredBytesAreNotFull();
        moreThan200AreFull();
        anEmptiedTapeIsFedAnew();
        Due.end();
    }

    private static void theHighestByteIsFirst() {
        SlateQuarry x = new SlateQuarry();
        Due.is("feed of 'top 12;*'", x.feed(0x746F702031323B2AL), 8);
        Due.is("the star is last", x.laws(), -17);
        Due.is("feed of 'top 12; '", x.feed(0x746F702031323B20L), 8);
        Due.is("laws", x.laws(), 1);
        Due.is("top", x.law(0), 12);
    }

    private static void bytesComeBehindTheTape() {
        SlateQuarry x = new SlateQuarry();
        Due.is("feed", x.feed(Due.eight("club 1")), 8);
        Due.is("feed", x.feed(Due.eight("       ;")), 16);
        Due.is("feed", x.feed(Due.eight("tool 2;")), 24);
        Due.is("laws", x.laws(), 2);
        Due.is("club", x.law(3), 1);
        Due.is("tool", x.law(2), 2);
    }

    private static void bytesComeBehindWhatEndKept() {
        SlateQuarry x = new SlateQuarry();
        x.feed(Due.eight("club 1;;"));
        x.end(6);
        Due.is("feed behind 6", x.feed(Due.eight("2;tool 3")), 14);
        Due.is("end", x.end(14), 14);
        Due.is("feed behind 14", x.feed(Due.eight(";")), 22);
        Due.is("laws", x.laws(), 2);
        Due.is("club", x.law(3), 12);
        Due.is("tool", x.law(2), 3);
    }

    private static void bytesAbove127AreBytes() {
        for (long v : new long[] {-1L, Long.MIN_VALUE, 0L, Long.MAX_VALUE}) {
            SlateQuarry x = new SlateQuarry();
            Due.is("feed(" + v + ")", x.feed(v), 8);
            Due.is("laws", x.laws(), -10);
            Due.is("fault", x.fault(), 1);
        }
        SlateQuarry x = new SlateQuarry();
        Due.is("'top' and 128", x.feed(0x746F708020202020L), 8);
        Due.is("128 is no token", x.laws(), -13);
        Due.is("a highest byte of 244 is not 't'", x.feed(0xF46F702037203B20L), 8);
        Due.is("laws", x.laws(), -10);
    }

    private static void twoHundredBytesAreNotFull() {
        SlateQuarry x = new SlateQuarry();
        for (int i = 1; i <= 25; i++) {
            Due.is("feed", x.feed(Due.eight(i == 25 ? "  top 7;" : "")), 8 * i);
        }
        Due.is("all 200 are read", x.laws(), 1);
        Due.is("top", x.law(0), 7);
    }

    private static void moreThan200AreFull() {
        for (int had = 186; had <= 200; had++) {
            int kept = had;
            SlateQuarry x = new SlateQuarry();
            feedUpTo(x, kept);
            Due.is("feed behind " + kept, x.feed(Due.eight("")), kept <= 192 ? kept + 8 : Due.FULL);
            if (kept > 192) {
                Refused.is("feed behind " + kept, y -> feedUpTo(y, kept), y -> y.feed(-1L), Due.FULL);
            }
        }
        Refused.is("feed of a full tape", Past::full, y -> y.feed(0), Due.FULL);
    }

    private static void feedUpTo(SlateQuarry x, int n) {
        for (int i = 0; i < 25; i++) {
            x.feed(Due.eight(i == 0 ? "club 7;" : ""));
        }
        Due.is("end(" + n + ")", x.end(n), 200);
    }

    private static void anEmptiedTapeIsFedAnew() {
        SlateQuarry x = new SlateQuarry();
        feedUpTo(x, 200);
        Due.is("laws", x.laws(), 1);
        Due.is("feed behind laws()", x.feed(0), 8);
        Due.is("end(0)", x.end(0), 8);
        Due.is("feed behind end(0)", x.feed(0), 8);
    }
}
