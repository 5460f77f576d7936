/**
 * Promise 11, told: "Of a GANG: 0 MEN, 1 ACCOUNT, 2 WALLS LET to it so far, 3 its WALL now (6 times g, and c;
 * NONE), 4 the ASK that it has it for (0: none), 5 BLOCKS so far. BAD -1000000."
 */
public final class Promise11ToldTest {
    public static void main(String[] args) {
        atFirst();
        withAWall();
        behindTheMonth();
        eachWall();
        accountsBelow0();
        asksOf0And9999();
        askedForIsNotLet();
        wallsSoFar();
        noGang();
        noSuchThing();
        changesNothing();
        Due.end();
    }

    private static void tells(String when, SlateQuarry x, int gang, int... due) {
        for (int what = 0; what < due.length; what++) {
            Due.is(when + ", told(" + gang + ", " + what + ")", x.told(gang, what), due[what]);
        }
    }

    private static void atFirst() {
        SlateQuarry x = new SlateQuarry();
        x.gang(3);
        tells("at first", x, 0, 3, 0, 0, Due.NONE, 0, 0);
    }

    private static SlateQuarry worked() {
        SlateQuarry x = new SlateQuarry();
        x.gang(1);
        x.gang(3);
        x.size(1, 10);
        x.ask(1, 4, 5, 7);
        x.let();
        x.work(1, 1, 0);
        x.work(1, 2, 0);
        return x;
    }

    private static void withAWall() {
        SlateQuarry x = worked();
        tells("with a wall", x, 1, 3, 44, 1, 29, 7, 2);
        tells("another gang", x, 0, 1, 0, 0, Due.NONE, 0, 0);
    }

    private static void behindTheMonth() {
        SlateQuarry x = worked();
        x.month();
        tells("behind the month", x, 1, 3, 44, 1, Due.NONE, 0, 2);
    }

    private static void eachWall() {
        for (int w = 0; w < 30; w++) {
            SlateQuarry x = Past.withGangs(1);
            x.ask(0, w / 6, w % 6, 1);
            x.let();
            Due.is("its WALL", x.told(0, 3), w);
        }
    }

    private static void accountsBelow0() {
        SlateQuarry x = Past.gangAtWall("tool 999;", 6, 0);
        for (int month = 1; month <= 60; month++) {
            x.work(0, 1, 0);
            Due.is("ACCOUNT", x.told(0, 1), -5994 * month);
            x.month();
            x.ask(0, 0, 0, 0);
            x.let();
        }
    }

    private static void asksOf0And9999() {
        Due.is("an ask of 0", Past.gangAtWall("", 1, 0).told(0, 4), 0);
        Due.is("an ask of 9999", Past.gangAtWall("", 1, 9999).told(0, 4), 9999);
    }

    private static void askedForIsNotLet() {
        SlateQuarry x = Past.withGangs(2);
        x.ask(0, 1, 1, 5);
        x.ask(1, 1, 1, 6);
        tells("not let yet", x, 0, 1, 0, 0, Due.NONE, 0, 0);
        x.let();
        tells("the other has it", x, 1, 1, 0, 0, Due.NONE, 0, 0);
    }

    private static void wallsSoFar() {
        SlateQuarry x = Past.withGangs(1);
        for (int month = 1; month <= 9; month++) {
            x.ask(0, 0, 0, 0);
            x.ask(0, 1, 1, 0);
            x.let();
            Due.is("one wall a month", x.told(0, 2), month);
            x.month();
        }
        x.let();
        Due.is("a month without a wall", x.told(0, 2), 9);
    }

    private static void noGang() {
        for (int what = 0; what <= 5; what++) {
            int looked = what;
            for (int gang : Due.outside(0, 2)) {
                Refused.is("told(" + gang + ", " + what + ")", Past::let, x -> x.told(gang, looked), Due.FAR_BAD);
            }
        }
        for (int gang : Due.outside(0, 7)) {
            Refused.is("told(" + gang + ", 0)", Past::full, x -> x.told(gang, 0), Due.FAR_BAD);
        }
    }

    private static void noSuchThing() {
        for (int what : Due.outside(0, 5)) {
            Refused.is("told(0, " + what + ")", Past::let, x -> x.told(0, what), Due.FAR_BAD);
        }
    }

    private static void changesNothing() {
        for (int what = 0; what <= 5; what++) {
            int looked = what;
            Refused.changesNothing("told(0, " + what + ")", Past::let, x -> x.told(0, looked));
        }
    }
}
