/** Promise 17, most: "MOST of a BLOCK. BAD: also FLAWS beyond its LENGTH." */
public final class Promise17MostTest {
    public static void main(String[] args) {
        greatestSumOfPrices();
        withoutSizes();
        slatesThatJustFit();
        noSlateHasAFlawedPlace();
        eachFlawedPlace();
        allFlawed();
        theGreatestOfAll();
        rubbishBetweenSlates();
        noBlock();
        changesNothing();
        Due.end();
    }

    private static SlateQuarry threeSizes() {
        SlateQuarry x = new SlateQuarry();
        x.size(4, 10);
        x.size(7, 20);
        x.size(3, 6);
        return x;
    }

    /** Not the dearest slate first, nor the dearest by its length. */
    private static void greatestSumOfPrices() {
        SlateQuarry x = threeSizes();
        Due.is("20", x.most(20, 0), 52);
        Due.is("8", x.most(8, 0), 20);
        Due.is("6", x.most(6, 0), 12);
        SlateQuarry y = new SlateQuarry();
        y.size(5, 11);
        y.size(3, 6);
        Due.is("two of 3 are more than one of 5", y.most(6, 0), 12);
        Due.is("5", y.most(5, 0), 11);
        Due.is("8", y.most(8, 0), 17);
        Due.is("9", y.most(9, 0), 18);
    }

    private static void withoutSizes() {
        SlateQuarry x = new SlateQuarry();
        Due.is("1", x.most(1, 0), 0);
        Due.is("40", x.most(40, 0), 0);
        Due.is("40, flawed", x.most(40, 1), 0);
    }

    private static void slatesThatJustFit() {
        for (int length = 1; length <= 20; length++) {
            SlateQuarry x = new SlateQuarry();
            x.size(length, 7);
            for (int block = 1; block <= 40; block++) {
                Due.is(block + " of " + length, x.most(block, 0), block / length * 7);
            }
        }
    }

    private static void noSlateHasAFlawedPlace() {
        SlateQuarry x = threeSizes();
        Due.is("20 with flaws", x.most(20, 34), 46);
        Due.is("3 with its first flawed", x.most(3, 1), 0);
        Due.is("3 with its last flawed", x.most(3, 4), 0);
        Due.is("7 with its last flawed", x.most(7, 64), 12);
        Due.is("8 with its last flawed", x.most(8, 128), 20);
        Due.is("8 with its first flawed", x.most(8, 1), 20);
        Due.is("7 with its middle flawed", x.most(7, 8), 12);
    }

    /** "bits of a long: place i is flawed" */
    private static void eachFlawedPlace() {
        SlateQuarry x = new SlateQuarry();
        x.size(20, 200);
        x.size(1, 1);
        for (int i = 0; i < 40; i++) {
            Due.is("place " + i, x.most(40, 1L << i), 219);
            Due.is("but place " + i, x.most(40, (1L << 40) - 1 ^ 1L << i), 1);
        }
        for (int length = 1; length <= 40; length++) {
            Due.is("the last place", x.most(length, 1L << length - 1), length > 20 ? length - 21 + 200 : length - 1);
        }
    }

    private static void allFlawed() {
        SlateQuarry x = new SlateQuarry();
        x.size(1, 200);
        for (int length = 1; length <= 40; length++) {
            Due.is("all flawed", x.most(length, (1L << length) - 1), 0);
            Due.is("none flawed", x.most(length, 0), 200 * length);
        }
    }

    private static void theGreatestOfAll() {
        SlateQuarry x = new SlateQuarry();
        for (int i = 0; i < 8; i++) {
            x.size(8 - i, 200);
        }
        Due.is("40", x.most(40, 0), 8000);
    }

    private static void rubbishBetweenSlates() {
        SlateQuarry x = new SlateQuarry();
        x.size(3, 5);
        Due.is("a flaw ahead, between, behind", x.most(9, 1 | 1 << 4 | 1 << 8), 10);
        Due.is("from place 1 and 5 on", x.most(8, 1 | 1 << 4), 10);
    }

    private static void noBlock() {
        BadBlocks.each((length, flaws) -> Refused.is("most(" + length + ", " + flaws + ")", Past::let,
                x -> x.most(length, flaws), Due.BAD));
    }

    private static void changesNothing() {
        Refused.changesNothing("most(40, 0)", Past::let, x -> x.most(40, 0));
        Refused.changesNothing("most(9, 256)", Past::let, x -> x.most(9, 256));
    }
}
