/** Promise 16, size: "A SIZE: its number. BAD; FULL." */
public final class Promise16SizeTest {
    public static void main(String[] args) {
        numberedAsTheyCome();
        bounds();
        likeSizesAreSizes();
        noLength();
        noPrice();
        eightAreFull();
        badIsAheadOfFull();
        Due.end();
    }

    private static void numberedAsTheyCome() {
        SlateQuarry x = new SlateQuarry();
        for (int i = 0; i < 8; i++) {
            Due.is("size", x.size(i + 1, 10), i);
            Due.is("count(1)", x.count(1), i + 1);
            Due.is("no slates yet", x.slates(i), 0);
        }
    }

    /** "each with a LENGTH (1 to 20) and a PRICE (1 to 200)" */
    private static void bounds() {
        for (int length : new int[] {1, 2, 19, 20}) {
            for (int price : new int[] {1, 2, 199, 200}) {
                SlateQuarry x = new SlateQuarry();
                Due.is("size(" + length + ", " + price + ")", x.size(length, price), 0);
                Due.is("too short a block", length == 1 ? 0 : x.most(length - 1, 0), 0);
                Due.is("a block of its length", x.most(length, 0), price);
            }
        }
    }

    private static void likeSizesAreSizes() {
        SlateQuarry x = new SlateQuarry();
        Due.is("size", x.size(3, 3), 0);
        Due.is("the same", x.size(3, 3), 1);
    }

    private static void noLength() {
        for (int length : Due.outside(1, 20)) {
            Refused.is("size(" + length + ", 150)", Past::open, x -> x.size(length, 150), Due.BAD);
        }
    }

    private static void noPrice() {
        for (int price : Due.outside(1, 200)) {
            Refused.is("size(1, " + price + ")", Past::open, x -> x.size(1, price), Due.BAD);
        }
        SlateQuarry x = new SlateQuarry();
        x.size(1, 0);
        x.size(0, 1);
        Due.is("a refused one takes no number", x.size(1, 1), 0);
    }

    /** "SIZES (8)" */
    private static void eightAreFull() {
        Refused.is("a ninth", Past::full, x -> x.size(1, 200), Due.FULL);
        Refused.is("a ninth", Past::full, x -> x.size(20, 1), Due.FULL);
    }

    private static void badIsAheadOfFull() {
        Refused.is("size(0, 1)", Past::full, x -> x.size(0, 1), Due.BAD);
        Refused.is("size(21, 1)", Past::full, x -> x.size(21, 1), Due.BAD);
        Refused.is("size(1, 0)", Past::full, x -> x.size(1, 0), Due.BAD);
        Refused.is("size(1, 201)", Past::full, x -> x.size(1, 201), Due.BAD);
    }
}
