/**
 * Promise 19, work: "A GANG WORKS its WALL, with a BLOCK: what came to its ACCOUNT (tool not taken off). BAD
 * -1000000 (as most()); -1000002: it has none, or that may not be worked.", and the pay and LOOSE WALLS of Terms.
 */
public final class Promise19WorkTest {
    public static void main(String[] args) {
        aBlockComes();
        mostAndPoundageAndAsk();
        poundageIsDividedDown();
        poundageOfTheWallsGoodness();
        clubIsDividedDown();
        clubOf0And100();
        theGreatestPay();
        toolWithTheFirstBlockOfAMonth();
        toolForEachMan();
        aRefusedBlockIsNotTheFirst();
        noGang();
        noBlock();
        itHasNone();
        badIsAheadOfState();
        Due.end();
    }

    /** "STEPS is one more, a BLOCK comes" */
    private static void aBlockComes() {
        SlateQuarry x = Past.gangAtWall("", 1, 3);
        x.size(2, 5);
        for (int i = 1; i <= 30; i++) {
            Due.is("work", x.work(0, 5, 0), 13);
            Due.is("STEPS", x.face(0, 0, 1), i);
            Due.is("ACCOUNT", x.told(0, 1), 13 * i);
            Due.is("BLOCKS of the gang", x.told(0, 5), i);
            Due.is("BLOCKS", x.count(7), i);
            Due.is("slates", x.slates(0), 2 * i);
            Due.is("rubbish", x.count(8), i);
        }
    }

    /** "it earns MOST, and MOST times the POUNDAGE of the WALL's GOODNESS by 100, and its ASK" */
    private static void mostAndPoundageAndAsk() {
        Due.is("the ask alone", paid("", 11, 1, 0), 11);
        Due.is("most alone", paid("", 0, 7, 3), 21);
        Due.is("most and ask", paid("", 11, 7, 3), 32);
        Due.is("all three", paid("pound 5 100;", 11, 7, 3), 53);
        Due.is("nothing", paid("pound 5 300;", 0, 1, 0), 0);
        SlateQuarry x = Past.gangAtWall("pound 9 300;", 1, 11);
        x.size(1, 3);
        Due.is("all flawed: the ask alone", x.work(0, 40, (1L << 40) - 1), 11);
    }

    /** What comes for a block of a length, with one size of length 1 at a price (0: none). */
    private static int paid(String laws, int ask, int length, int price) {
        SlateQuarry x = Past.gangAtWall(laws, 1, ask);
        x.size(1, price);
        int came = x.work(0, length, 0);
        Due.is("ACCOUNT", x.told(0, 1), came);
        return came;
    }

    private static void poundageIsDividedDown() {
        int[] poundages = {0, 1, 49, 50, 99, 100, 101, 199, 200, 299, 300};
        for (int poundage : poundages) {
            for (int most = 1; most <= 4; most++) {
                int due = most + most * poundage / 100;
                Due.is(most + " with " + poundage, paid("pound 9 " + poundage + ";", 0, most, 1), due);
            }
        }
        Due.is("not rounded with the ask", paid("pound 9 99;", 1, 1, 1), 2);
    }

    private static void poundageOfTheWallsGoodness() {
        int[] due = {3, 3, 3, 4, 4, 4, 2, 2, 2, 1};
        for (int goodness = 0; goodness <= 9; goodness++) {
            SlateQuarry x = Past.gangAtWall("pound 2 200;pound 5 300;pound 8 100;", 1, 0);
            x.size(1, 1);
            x.rock(0, 0, goodness);
            Due.is("GOODNESS " + goodness, x.work(0, 1, 0), due[goodness]);
        }
    }

    /** "of all that club of a hundred (divided down) goes to THE CLUB, the rest to its ACCOUNT" */
    private static void clubIsDividedDown() {
        int[] earnings = {0, 1, 2, 49, 50, 51, 99, 100, 101, 199, 200, 9999};
        for (int club : new int[] {0, 1, 2, 10, 33, 50, 99, 100}) {
            for (int earned : earnings) {
                SlateQuarry x = Past.gangAtWall("club " + club + ";", 1, earned);
                int due = earned * club / 100;
                Due.is("of " + earned + " at " + club, x.work(0, 1, 0), earned - due);
                Due.is("THE CLUB", x.count(6), due);
                Due.is("ACCOUNT", x.told(0, 1), earned - due);
            }
        }
        Due.is("of most and ask, not of each", paid("club 50;", 1, 1, 1), 1);
        Due.is("of most and poundage, not of each", paid("club 50;pound 9 100;", 0, 1, 1), 1);
        Due.is("of all three", paid("club 34;pound 9 100;", 1, 1, 1), 2);
    }

    private static void clubOf0And100() {
        SlateQuarry none = Past.gangAtWall("club 0;", 1, 77);
        Due.is("club 0", none.work(0, 1, 0), 77);
        Due.is("THE CLUB", none.count(6), 0);
        SlateQuarry all = Past.gangAtWall("club 100;tool 2;", 1, 77);
        Due.is("club 100", all.work(0, 1, 0), 0);
        Due.is("THE CLUB", all.count(6), 77);
        Due.is("the tool is taken still", all.told(0, 1), -2);
    }

    private static void theGreatestPay() {
        Due.is("40 of 200, three times more, and 9999", paid("pound 9 300;", 9999, 40, 200), 41999);
    }

    /** "With the first BLOCK of a MONTH tool pence for each MAN go from its ACCOUNT": each gang's own first. */
    private static void toolWithTheFirstBlockOfAMonth() {
        SlateQuarry x = new SlateQuarry();
        Due.laws(x, "tool 5;", 1);
        x.gang(3);
        x.gang(2);
        x.ask(0, 0, 0, 10);
        x.ask(1, 0, 1, 10);
        x.let();
        Due.is("no tool without a block", x.told(0, 1), 0);
        Due.is("the first: tool is not taken off", x.work(0, 1, 0), 10);
        Due.is("tool", x.told(0, 1), -5);
        Due.is("the second", x.work(0, 1, 0), 10);
        Due.is("no tool", x.told(0, 1), 5);
        Due.is("the other gang's first", x.work(1, 1, 0), 10);
        Due.is("its tool", x.told(1, 1), 0);
        x.month();
        x.let();
        x.month();
        Due.is("no tool for a month without a block", x.told(0, 1), 5);
        x.ask(0, 0, 0, 10);
        x.let();
        Due.is("the first of a later month", x.work(0, 1, 0), 10);
        Due.is("tool", x.told(0, 1), 0);
        Due.is("THE CLUB gets no tool", x.count(6), 0);
    }

    private static void toolForEachMan() {
        for (int men = 1; men <= 6; men++) {
            for (int tool : new int[] {0, 1, 999}) {
                SlateQuarry x = Past.gangAtWall("tool " + tool + ";", men, 0);
                x.work(0, 1, 0);
                Due.is(tool + " for " + men, x.told(0, 1), -tool * men);
            }
        }
    }

    private static void aRefusedBlockIsNotTheFirst() {
        SlateQuarry x = Past.gangAtWall("tool 5;", 1, 0);
        x.work(0, 0, 0);
        x.work(0, 1, 2);
        Due.is("no tool yet", x.told(0, 1), 0);
        x.work(0, 1, 0);
        Due.is("tool", x.told(0, 1), -5);
    }

    private static void noGang() {
        for (int gang : Due.outside(0, 2)) {
            Refused.is("work(" + gang + ", 1, 0)", Past::let, x -> x.work(gang, 1, 0), Due.FAR_BAD);
        }
        for (int gang : Due.outside(0, 7)) {
            Refused.is("work(" + gang + ", 1, 0)", Past::full, x -> x.work(gang, 1, 0), Due.FAR_BAD);
        }
    }

    /** "(as most())" */
    private static void noBlock() {
        BadBlocks.each((length, flaws) -> Refused.is("work(0, " + length + ", " + flaws + ")", Past::let,
                x -> x.work(0, length, flaws), Due.FAR_BAD));
    }

    private static void itHasNone() {
        Refused.is("a month that is not let", Past::open, x -> x.work(0, 1, 0), Due.FAR_STATE);
        Refused.is("a let month", Past::let, x -> x.work(2, 1, 0), Due.FAR_STATE);
        SlateQuarry x = Past.gangAtWall("", 1, 0);
        x.month();
        Due.is("behind the month", x.work(0, 1, 0), Due.FAR_STATE);
    }

    private static void badIsAheadOfState() {
        Refused.is("no LENGTH", Past::let, x -> x.work(2, 0, 0), Due.FAR_BAD);
        Refused.is("no LENGTH", Past::let, x -> x.work(2, 41, 0), Due.FAR_BAD);
        Refused.is("no FLAWS", Past::let, x -> x.work(2, 1, 2), Due.FAR_BAD);
    }
}
