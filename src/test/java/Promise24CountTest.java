/**
 * Promise 24, count: "How many: 0 GANGS, 1 SIZES, 2 the MONTH, 3 ASKS, 4 WALLS that are LET, 5 LOOSE ones, 6 pence in
 * THE CLUB, 7 BLOCKS worked, 8 places of rubbish of these (flawed ones, too), 9 laws. BAD."
 */
public final class Promise24CountTest {
    public static void main(String[] args) {
        eachOne();
        asManyAsThereMayBe();
        wallsThatAreLet();
        looseOnes();
        theClub();
        rubbish();
        laws();
        noSuchThing();
        changesNothing();
        Due.end();
    }

    private static void counts(SlateQuarry x, int... due) {
        for (int what = 0; what < due.length; what++) {
            Due.is("count(" + what + ")", x.count(what), due[what]);
        }
    }

    private static void eachOne() {
        counts(new SlateQuarry(), 0, 0, 0, 0, 0, 0, 0, 0, 0, 0);
        SlateQuarry x = new SlateQuarry();
        Past.let(x);
        // The blocks of 20 earn 46, 50 of a hundred of that, and 30: 99, of which 9 go to the club.
        // The block of 10 earns 26, 20 of a hundred of that, and 20: 51, of which 5.
        counts(x, 3, 3, 1, 4, 2, 1, 32, 4, 9, 6);
    }

    private static void asManyAsThereMayBe() {
        SlateQuarry x = new SlateQuarry();
        Past.full(x);
        Due.is("GANGS", x.count(0), 8);
        Due.is("SIZES", x.count(1), 8);
        x.gang(1);
        x.size(1, 1);
        Due.is("GANGS", x.count(0), 8);
        Due.is("SIZES", x.count(1), 8);
    }

    private static void wallsThatAreLet() {
        for (int w = 0; w < 30; w++) {
            SlateQuarry one = Past.withGangs(1);
            one.ask(0, w / 6, w % 6, 0);
            one.let();
            Due.is("wall " + w, one.count(4), 1);
        }
        SlateQuarry x = Past.withGangs(8);
        for (int gang = 0; gang < 8; gang++) {
            x.ask(gang, 4 - gang % 2 * 4, gang % 6, 0);
            x.ask(gang, 3, gang % 6, 0);
        }
        Due.is("asked for", x.count(4), 0);
        Due.is("let", x.let(), 8);
        Due.is("let", x.count(4), 8);
        Due.is("asks stay", x.count(3), 16);
        x.month();
        Due.is("behind the month", x.count(4), 0);
        Due.is("no asks", x.count(3), 0);
        Due.is("the month", x.count(2), 1);
    }

    private static void looseOnes() {
        SlateQuarry x = Past.withGangs(8);
        Due.laws(x, "hang 1;", 1);
        for (int month = 0; month < 4; month++) {
            for (int c = 0; c < 6; c++) {
                x.ask(c, month, c, 0);
            }
            Due.is("let", x.let(), 6);
            for (int c = 0; c < 6; c++) {
                x.work(c, 1, 0);
                Due.is("LOOSE", x.count(5), c + 1);
            }
            for (int c = 0; c < 6; c++) {
                x.clear(month + 1, c, 7);
                Due.is("LOOSE", x.count(5), 5 - c);
            }
            x.month();
        }
    }

    private static void theClub() {
        SlateQuarry x = Past.gangAtWall("club 50;", 1, 9999);
        for (int i = 1; i <= 20; i++) {
            Due.is("work", x.work(0, 1, 0), 5000);
            Due.is("THE CLUB", x.count(6), 4999 * i);
        }
        x.month();
        Due.is("behind the month", x.count(6), 4999 * 20);
        Due.laws(x, "", 0);
        Due.is("without the law", x.count(6), 4999 * 20);
    }

    private static void rubbish() {
        SlateQuarry x = Past.gangAtWall("", 1, 0);
        x.work(0, 40, 0);
        Due.is("without sizes", x.count(8), 40);
        x.size(3, 1);
        x.work(0, 3, 0);
        Due.is("none", x.count(8), 40);
        x.work(0, 5, 0);
        Due.is("two that are sound", x.count(8), 42);
        x.work(0, 4, 1);
        Due.is("one that is flawed", x.count(8), 43);
        x.work(0, 3, 2);
        Due.is("one flawed and two sound", x.count(8), 46);
        x.work(0, 40, (1L << 40) - 1);
        Due.is("all flawed", x.count(8), 86);
        x.most(2, 0);
        x.split(2, 0, 0);
        x.work(0, 2, 4);
        Due.is("not worked", x.count(8), 86);
        Due.is("BLOCKS", x.count(7), 6);
    }

    private static void laws() {
        SlateQuarry x = new SlateQuarry();
        Due.laws(x, "top 1;hang 1;tool 1;club 1;pound 1 1;pound 2 1;pound 3 1;pound 4 1;", 8);
        Due.is("as many as may be", x.count(9), 8);
        Due.fault(x, "top 1;top", 4, 6);
        Due.is("behind a fault", x.count(9), 8);
        Due.laws(x, "", 0);
        Due.is("none", x.count(9), 0);
    }

    private static void noSuchThing() {
        for (int what : Due.outside(0, 9)) {
            Refused.is("count(" + what + ")", Past::let, x -> x.count(what), Due.BAD);
        }
    }

    private static void changesNothing() {
        for (int what = 0; what <= 9; what++) {
            int looked = what;
            Refused.changesNothing("count(" + what + ")", Past::let, x -> x.count(looked));
        }
    }
}
