/** Promise 6, law: "What is told: 0 top (NONE), 1 hang (NONE), 2 tool, 3 club; 10 and a GOODNESS: its POUNDAGE. BAD." */
public final class Promise06LawTest {
    public static void main(String[] args) {
        whatIsTold();
        whatIsNotTold();
        toldAsNothingIsNotNone();
        poundage();
        poundageOfOnePound();
        bad();
        Due.end();
    }

    private static void whatIsTold() {
        SlateQuarry x = new SlateQuarry();
        Due.laws(x, "club 4;tool 3;hang 2;top 1;", 4);
        for (int what = 0; what < 4; what++) {
            Due.is("law(" + what + ")", x.law(what), what + 1);
        }
    }

    /** "What is not told: no top, no hang, tool 0, club 0." */
    private static void whatIsNotTold() {
        String[] laws = {"top 5;", "hang 5;", "tool 5;", "club 5;"};
        int[] untold = {Due.NONE, Due.NONE, 0, 0};
        for (int told = 0; told < 4; told++) {
            SlateQuarry x = new SlateQuarry();
            Due.laws(x, laws[told], 1);
            for (int what = 0; what < 4; what++) {
                Due.is("law(" + what + ") of " + laws[told], x.law(what), what == told ? 5 : untold[what]);
            }
        }
    }

    private static void toldAsNothingIsNotNone() {
        SlateQuarry x = new SlateQuarry();
        Due.laws(x, "top 0;hang 1;", 2);
        Due.is("top 0", x.law(0), 0);
        Due.is("hang 1", x.law(1), 1);
    }

    /** "POUNDAGE of a GOODNESS: that of the first pound whose GOODNESS is not below it (0: none)." */
    private static void poundage() {
        SlateQuarry x = new SlateQuarry();
        Due.laws(x, "pound 1 300;pound 4 0;pound 5 20;pound 8 7;", 4);
        int[] due = {300, 300, 0, 0, 0, 20, 7, 7, 7, 0};
        for (int goodness = 0; goodness < 10; goodness++) {
            Due.is("law(1" + goodness + ")", x.law(10 + goodness), due[goodness]);
        }
    }

    private static void poundageOfOnePound() {
        for (int pound = 0; pound <= 9; pound++) {
            SlateQuarry x = new SlateQuarry();
            Due.laws(x, "pound " + pound + " 77;", 1);
            for (int goodness = 0; goodness < 10; goodness++) {
                Due.is("law(1" + goodness + ") of " + pound, x.law(10 + goodness), goodness <= pound ? 77 : 0);
            }
        }
    }

    private static void bad() {
        for (int what : new int[] {-1, 4, 5, 6, 7, 8, 9, 20, 21, 256, 266, 65536, -246, Integer.MIN_VALUE,
            Integer.MIN_VALUE + 10, Integer.MAX_VALUE}) {
            Refused.is("law(" + what + ")", Past::open, x -> x.law(what), Due.BAD);
        }
    }
}
