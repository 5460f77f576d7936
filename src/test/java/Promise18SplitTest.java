/**
 * Promise 18, split: "What THE SPLIT of a BLOCK has at i-th (0 on): a SIZE; -5: rubbish. BAD: also i below 0;
 * NONE."
 */
public final class Promise18SplitTest {
    public static void main(String[] args) {
        slatesAndSinglePlacesOfRubbish();
        behindTheLastIsNone();
        fortyPieces();
        theLeastNumberFirst();
        thenAtThePlaceBehindThat();
        rubbishIsBehindAllSizes();
        mostIsAheadOfTheLeastNumber();
        noBlock();
        iBelow0();
        badIsAheadOfNone();
        changesNothing();
        Due.end();
    }

    private static SlateQuarry sizes(int... lengthsAndPrices) {
        SlateQuarry x = new SlateQuarry();
        for (int i = 0; i < lengthsAndPrices.length; i += 2) {
            x.size(lengthsAndPrices[i], lengthsAndPrices[i + 1]);
        }
        return x;
    }

    private static void pieces(SlateQuarry x, int length, long flaws, int... due) {
        for (int i = 0; i < due.length; i++) {
            Due.is("split(" + length + ", " + flaws + ", " + i + ")", x.split(length, flaws, i), due[i]);
        }
        Due.is("behind all", x.split(length, flaws, due.length), Due.NONE);
    }

    private static void slatesAndSinglePlacesOfRubbish() {
        SlateQuarry x = sizes(4, 10, 7, 20, 3, 6);
        pieces(x, 20, 0, 1, 1, 2, 2);
        pieces(x, 20, 34, -5, -5, 2, -5, 1, 1);
        pieces(x, 3, 0, 2);
        pieces(x, 2, 0, -5, -5);
        pieces(x, 1, 1, -5);
        pieces(x, 3, 7, -5, -5, -5);
        pieces(new SlateQuarry(), 3, 0, -5, -5, -5);
    }

    private static void behindTheLastIsNone() {
        SlateQuarry x = sizes(20, 200);
        pieces(x, 40, 0, 0, 0);
        for (int i : new int[] {2, 3, 39, 40, 41, 256, 65536, Integer.MAX_VALUE}) {
            Due.is("split(40, 0, " + i + ")", x.split(40, 0, i), Due.NONE);
        }
    }

    private static void fortyPieces() {
        SlateQuarry x = sizes(1, 1);
        Due.is("the 39th", x.split(40, 0, 39), 0);
        Due.is("the 40th", x.split(40, 0, 40), Due.NONE);
        Due.is("the 39th, flawed", x.split(40, 1L << 39, 39), -5);
        Due.is("the 40th", x.split(40, (1L << 40) - 1, 40), Due.NONE);
    }

    /** "of those with MOST the one that has at place 0 the SIZE of the least number" */
    private static void theLeastNumberFirst() {
        pieces(sizes(1, 1, 2, 2, 1, 1), 4, 0, 0, 0, 0, 0);
        pieces(sizes(2, 2, 1, 1), 5, 0, 0, 0, 1);
        pieces(sizes(3, 3, 1, 1, 2, 2), 4, 0, 0, 1);
        SlateQuarry like = new SlateQuarry();
        for (int i = 0; i < 8; i++) {
            like.size(1, 9);
        }
        pieces(like, 2, 0, 0, 0);
        SlateQuarry last = new SlateQuarry();
        for (int i = 0; i < 8; i++) {
            last.size(1, i + 1);
        }
        pieces(last, 2, 0, 7, 7);
    }

    /** "then at the place behind that, and so on" */
    private static void thenAtThePlaceBehindThat() {
        pieces(sizes(2, 2, 1, 1), 5, 2, 1, -5, 0, 1);
        pieces(sizes(5, 5, 2, 2, 3, 3), 10, 0, 0, 0);
        pieces(sizes(5, 5, 2, 2, 3, 3), 7, 0, 0, 1);
        pieces(sizes(4, 4, 2, 2, 3, 3), 7, 0, 0, 2);
        pieces(sizes(4, 4, 2, 2, 3, 3), 7, 4, 1, -5, 0);
    }

    /** "(rubbish behind all SIZES)": a slate stands ahead of rubbish that is worth as much. */
    private static void rubbishIsBehindAllSizes() {
        pieces(sizes(3, 5), 5, 0, 0, -5, -5);
        pieces(sizes(3, 5, 4, 5), 5, 0, 0, -5, -5);
        pieces(sizes(4, 5, 3, 5), 5, 0, 0, -5);
        pieces(sizes(4, 5, 3, 5), 5, 1, -5, 0);
        pieces(sizes(3, 5), 7, 0, 0, 0, -5);
    }

    private static void mostIsAheadOfTheLeastNumber() {
        pieces(sizes(1, 1, 2, 3), 3, 0, 0, 1);
        pieces(sizes(3, 5, 4, 10), 4, 0, 1);
        pieces(sizes(3, 5, 4, 10), 5, 1, -5, 1);
        pieces(sizes(2, 1, 3, 9), 4, 0, 1, -5);
        pieces(sizes(2, 1, 3, 9), 4, 1, -5, 1);
    }

    private static void noBlock() {
        BadBlocks.each((length, flaws) -> Refused.is("split(" + length + ", " + flaws + ", 0)", Past::let,
                x -> x.split(length, flaws, 0), Due.BAD));
    }

    private static void iBelow0() {
        for (int i : new int[] {-1, -4, -5, -256, -65536, Integer.MIN_VALUE}) {
            Refused.is("split(20, 0, " + i + ")", Past::let, x -> x.split(20, 0, i), Due.BAD);
        }
    }

    private static void badIsAheadOfNone() {
        Refused.is("split(41, 0, 41)", Past::let, x -> x.split(41, 0, 41), Due.BAD);
        Refused.is("split(0, 0, 0)", Past::let, x -> x.split(0, 0, 0), Due.BAD);
        Refused.is("split(3, 8, 9)", Past::let, x -> x.split(3, 8, 9), Due.BAD);
        Refused.is("split(20, 0, 20)", Past::let, x -> x.split(20, 0, 20), Due.NONE);
    }

    private static void changesNothing() {
        Refused.changesNothing("split(20, 0, 0)", Past::let, x -> x.split(20, 0, 0));
        Refused.changesNothing("split(3, 7, 0)", Past::let, x -> x.split(3, 7, 0));
    }
}
