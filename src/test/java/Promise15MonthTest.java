/** Promise 15, month: "The MONTH ends: no GANG has a WALL, no ASKS: the next one. STATE: it is not LET." */
public final class Promise15MonthTest {
    public static void main(String[] args) {
        theNextOne();
        noGangHasAWall();
        noAsks();
        itIsNotLet();
        otherThingsStay();
        aNewFirstBlock();
        Due.end();
    }

    /** "MONTHS from 0 on." */
    private static void theNextOne() {
        SlateQuarry x = new SlateQuarry();
        Due.is("the first", x.count(2), 0);
        for (int month = 0; month < 255; month++) {
            Due.is("let", x.let(), 0);
            Due.is("month", x.month(), month + 1);
        }
        Due.is("count(2)", x.count(2), 255);
    }

    private static void noGangHasAWall() {
        SlateQuarry x = Past.withGangs(8);
        for (int gang = 0; gang < 8; gang++) {
            x.ask(gang, gang / 2, gang % 2 * 5, 4);
        }
        Due.is("let", x.let(), 8);
        x.month();
        Due.is("count(4)", x.count(4), 0);
        for (int gang = 0; gang < 8; gang++) {
            Due.is("its wall", x.told(gang, 3), Due.NONE);
            Due.is("its ask", x.told(gang, 4), 0);
            Due.is("the wall's gang", x.face(gang / 2, gang % 2 * 5, 4), Due.NONE);
            Due.is("work", x.work(gang, 1, 0), Due.FAR_STATE);
        }
    }

    private static void noAsks() {
        SlateQuarry x = Past.withGangs(2);
        x.ask(0, 0, 0, 4);
        x.ask(1, 0, 0, 5);
        x.let();
        x.month();
        Due.is("count(3)", x.count(3), 0);
        Due.is("no ask is left to let", x.let(), 0);
    }

    private static void itIsNotLet() {
        Refused.is("a new object", Past::none, SlateQuarry::month, Due.STATE);
        Refused.is("an open month", Past::open, SlateQuarry::month, Due.STATE);
        SlateQuarry x = new SlateQuarry();
        x.let();
        Due.is("month", x.month(), 1);
        Due.is("month again", x.month(), Due.STATE);
        Due.is("count(2)", x.count(2), 1);
    }

    private static void otherThingsStay() {
        SlateQuarry x = new SlateQuarry();
        Past.let(x);
        int account = x.told(0, 1);
        int club = x.count(6);
        Due.is("month", x.month(), 2);
        Due.is("ACCOUNT", x.told(0, 1), account);
        Due.is("THE CLUB", x.count(6), club);
        Due.is("WALLS so far", x.told(0, 2), 2);
        Due.is("BLOCKS so far", x.told(0, 5), 3);
        Due.is("MEN", x.told(0, 0), 2);
        Due.is("STEPS", x.face(0, 0, 1), 3);
        Due.is("LOOSE", x.face(1, 0, 2), 1);
        Due.is("GOODNESS", x.face(0, 1, 0), 2);
        Due.is("SIZES", x.count(1), 3);
        Due.is("BLOCKS", x.count(7), 4);
        Due.is("laws", x.count(9), 6);
        Due.is("THE TAPE", x.end(0), 7);
        Due.is("SHEETS", x.haul(0, 2, 0, 1), -22);
    }

    private static void aNewFirstBlock() {
        SlateQuarry x = Past.gangAtWall("tool 5;", 1, 0);
        for (int month = 1; month <= 4; month++) {
            x.work(0, 1, 0);
            x.work(0, 1, 0);
            Due.is("tool once a month", x.told(0, 1), -5 * month);
            x.month();
            x.ask(0, 0, 0, 0);
            x.let();
        }
    }
}
