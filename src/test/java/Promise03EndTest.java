/** Promise 3, end: "THE TAPE keeps its first n bytes: how many it had. BAD." */
public final class Promise03EndTest {
    public static void main(String[] args) {
        keepsTheFirstBytes();
        keepsNone();
        keepsAll();
        answersHowManyItHad();
        fewerThanNoneAreBad();
        moreThanItHasAreBad();
        anEmptyTapeHasNone();
        aFullTapeHas200();
        Due.end();
    }

    private static void keepsTheFirstBytes() {
        SlateQuarry x = new SlateQuarry();
        x.feed(Due.eight("top 12;*"));
        Due.is("end(7)", x.end(7), 8);
        Due.is("laws", x.laws(), 1);
        Due.is("top", x.law(0), 12);
        x.feed(Due.eight("top 12;*"));
        x.end(5);
        Due.is("the fault lies at the end", x.laws(), -15);
        Due.is("fault", x.fault(), 2);
    }

    private static void keepsNone() {
        SlateQuarry x = new SlateQuarry();
        x.feed(Due.eight("********"));
        Due.is("end(0)", x.end(0), 8);
        Due.is("end(0) again", x.end(0), 0);
        Due.is("laws", x.laws(), 0);
    }

    private static void keepsAll() {
        SlateQuarry x = new SlateQuarry();
        x.feed(Due.eight(" club 9;"));
        Due.is("end(8)", x.end(8), 8);
        Due.is("laws", x.laws(), 1);
    }

    private static void answersHowManyItHad() {
        SlateQuarry x = new SlateQuarry();
        x.feed(0);
        x.feed(0);
        int had = 16;
        for (int n : new int[] {16, 15, 8, 8, 1, 0, 0}) {
            Due.is("end(" + n + ")", x.end(n), had);
            had = n;
        }
    }

    private static void fewerThanNoneAreBad() {
        for (int n : new int[] {-1, -8, -200, Integer.MIN_VALUE}) {
            Refused.is("end(" + n + ")", Past::open, x -> x.end(n), Due.BAD);
        }
    }

    /** The tape of this past has 7 bytes, and one more lies behind what end kept of it. */
    private static void moreThanItHasAreBad() {
        for (int n : new int[] {8, 9, 200, 201, 256, 65536, Integer.MAX_VALUE}) {
            Refused.is("end(" + n + ")", Past::open, x -> x.end(n), Due.BAD);
        }
    }

    private static void anEmptyTapeHasNone() {
        Due.is("end(0)", new SlateQuarry().end(0), 0);
        for (int n : Due.outside(0, 0)) {
            Refused.is("end(" + n + ")", Past::none, x -> x.end(n), Due.BAD);
        }
    }

    private static void aFullTapeHas200() {
        SlateQuarry x = new SlateQuarry();
        Past.full(x);
        Due.is("end(200)", x.end(200), 200);
        Due.is("end(199)", x.end(199), 200);
        for (int n : Due.outside(0, 200)) {
            Refused.is("end(" + n + ")", Past::full, y -> y.end(n), Due.BAD);
        }
    }
}
