/**
 * Promise 13, ask: "A GANG ASKS for a WALL (0 to 9999 pence a BLOCK): how many ASKS there are. BAD; STATE: this
 * MONTH is LET."
 */
public final class Promise13AskTest {
    public static void main(String[] args) {
        howManyAsksThereAre();
        aLaterAskTakesItsPlace();
        asManyAsksAsThereMayBe();
        noughtTo9999Pence();
        noSuchPence();
        noGang();
        noWall();
        thisMonthIsLet();
        badIsAheadOfState();
        asksAnewInTheNextMonth();
        asksAboveTopAndOfLooseWallsAreAsks();
        Due.end();
    }

    private static void howManyAsksThereAre() {
        SlateQuarry x = Past.withGangs(2);
        Due.is("the first", x.ask(0, 0, 0, 5), 1);
        Due.is("another wall", x.ask(0, 0, 1, 5), 2);
        Due.is("another gang", x.ask(1, 0, 0, 5), 3);
        Due.is("count(3)", x.count(3), 3);
    }

    /** "one ASK of a GANG for a WALL; a later one takes its place" */
    private static void aLaterAskTakesItsPlace() {
        for (int later : new int[] {0, 4, 6, 9999}) {
            SlateQuarry x = Past.withGangs(2);
            x.ask(0, 0, 0, 5);
            x.ask(1, 0, 0, 5);
            Due.is("not one more", x.ask(0, 0, 0, later), 2);
            x.let();
            Due.is("the later one counts", x.face(0, 0, 4), later < 5 ? 0 : 1);
            Due.is("the ask", x.told(later < 5 ? 0 : 1, 4), Math.min(later, 5));
        }
        SlateQuarry x = Past.withGangs(1);
        x.ask(0, 0, 0, 0);
        Due.is("an ask of 0 is one", x.ask(0, 0, 0, 0), 1);
    }

    private static void asManyAsksAsThereMayBe() {
        SlateQuarry x = Past.withGangs(8);
        int due = 0;
        for (int gang = 0; gang < 8; gang++) {
            for (int w = 0; w < 30; w++) {
                due++;
                Due.is("ask", x.ask(gang, w / 6, w % 6, 1), due);
            }
        }
        Due.is("a later one", x.ask(7, 4, 5, 0), 240);
        Due.is("count(3)", x.count(3), 240);
    }

    private static void noughtTo9999Pence() {
        for (int pence : new int[] {0, 1, 256, 9998, 9999}) {
            SlateQuarry x = Past.gangAtWall("", 1, pence);
            Due.is("the ask", x.told(0, 4), pence);
            Due.is("its pay", x.work(0, 1, 0), pence);
        }
    }

    private static void noSuchPence() {
        for (int pence : Due.outside(0, 9999)) {
            Refused.is("ask(0, 0, 1, " + pence + ")", Past::open, x -> x.ask(0, 0, 1, pence), Due.BAD);
            Refused.is("ask(2, 3, 3, " + pence + ")", Past::open, x -> x.ask(2, 3, 3, pence), Due.BAD);
        }
    }

    private static void noGang() {
        for (int gang : Due.outside(0, 2)) {
            Refused.is("ask(" + gang + ", 0, 2, 3)", Past::open, x -> x.ask(gang, 0, 2, 3), Due.BAD);
        }
        for (int gang : Due.outside(0, 7)) {
            Refused.is("ask(" + gang + ", 0, 2, 3)", Past::full, x -> x.ask(gang, 0, 2, 3), Due.BAD);
        }
    }

    private static void noWall() {
        for (int g : Due.outside(0, 4)) {
            Refused.is("ask(2, " + g + ", 2, 3)", Past::open, x -> x.ask(2, g, 2, 3), Due.BAD);
        }
        for (int c : Due.outside(0, 5)) {
            Refused.is("ask(2, 2, " + c + ", 3)", Past::open, x -> x.ask(2, 2, c, 3), Due.BAD);
        }
        Refused.is("ask(2, 2, -6, 3)", Past::open, x -> x.ask(2, 2, -6, 3), Due.BAD);
        Refused.is("ask(2, -1, 6, 3)", Past::open, x -> x.ask(2, -1, 6, 3), Due.BAD);
    }

    private static void thisMonthIsLet() {
        Refused.is("a new ask", Past::let, x -> x.ask(2, 2, 2, 3), Due.STATE);
        Refused.is("a later one for its wall", Past::let, x -> x.ask(0, 0, 1, 3), Due.STATE);
        SlateQuarry x = Past.withGangs(1);
        x.let();
        Due.is("a month let without asks", x.ask(0, 0, 0, 0), Due.STATE);
        Due.is("count(3)", x.count(3), 0);
    }

    private static void badIsAheadOfState() {
        Refused.is("no gang", Past::let, x -> x.ask(3, 2, 2, 3), Due.BAD);
        Refused.is("no gallery", Past::let, x -> x.ask(0, 5, 2, 3), Due.BAD);
        Refused.is("no column", Past::let, x -> x.ask(0, 2, 6, 3), Due.BAD);
        Refused.is("below 0", Past::let, x -> x.ask(0, 2, 2, -1), Due.BAD);
        Refused.is("above 9999", Past::let, x -> x.ask(0, 2, 2, 10000), Due.BAD);
    }

    private static void asksAnewInTheNextMonth() {
        SlateQuarry x = Past.withGangs(1);
        x.ask(0, 0, 0, 5);
        x.let();
        Due.is("asks stay behind the letting", x.count(3), 1);
        x.month();
        Due.is("the first of the next month", x.ask(0, 1, 1, 5), 1);
        Due.is("the wall of the month before", x.ask(0, 0, 0, 5), 2);
    }

    private static void asksAboveTopAndOfLooseWallsAreAsks() {
        SlateQuarry x = new SlateQuarry();
        Past.open(x);
        Due.is("above top", x.ask(2, 3, 3, 9999), 5);
        Due.is("a LOOSE wall", x.ask(2, 1, 0, 1), 6);
        Due.is("one under it", x.ask(2, 0, 0, 1), 7);
    }
}
