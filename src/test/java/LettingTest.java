/** Promises 13 to 15: ask, let, month. */
public final class LettingTest {
    public static void main(String[] args) {
        asks();
        leastAsk();
        fewestWalls();
        order();
        top();
        loose();
        months();
        Due.end();
    }

    private static SlateQuarry withGangs(int n) {
        SlateQuarry x = new SlateQuarry();
        for (int i = 0; i < n; i++) {
            x.gang(1);
        }
        return x;
    }

    private static void asks() {
        SlateQuarry x = withGangs(2);
        Due.is("ask of none", x.ask(2, 0, 0, 0), SlateQuarry.BAD);
        Due.is("ask of none", x.ask(-1, 0, 0, 0), SlateQuarry.BAD);
        Due.is("ask below 0", x.ask(0, 0, 0, -1), SlateQuarry.BAD);
        Due.is("ask of 10000", x.ask(0, 0, 0, 10000), SlateQuarry.BAD);
        Due.is("ask of 0", x.ask(0, 0, 0, 0), 1);
        Due.is("ask of 9999", x.ask(0, 0, 0, 9999), 1);
        Due.is("ask elsewhere", x.ask(0, 0, 1, 5), 2);
        Due.is("ask of another", x.ask(1, 0, 0, 9998), 3);
        Due.is("count(3)", x.count(3), 3);
        Due.is("let", x.let(), 2);
        Due.is("the later ask holds", x.told(1, 3), 0);
        Due.is("the ask", x.told(1, 4), 9998);
        Due.is("the other wall", x.told(0, 3), 1);
        Due.is("asks behind let", x.count(3), 3);
        Due.is("STATE", x.ask(0, 1, 1, 1), SlateQuarry.STATE);
        Due.is("BAD is ahead of STATE", x.ask(0, 1, 1, -1), SlateQuarry.BAD);
        Due.is("BAD is ahead of STATE", x.ask(2, 1, 1, 1), SlateQuarry.BAD);

        SlateQuarry full = withGangs(8);
        int due = 0;
        for (int gang = 0; gang < 8; gang++) {
            for (int w = 0; w < 30; w++) {
                due++;
                Due.is("ask", full.ask(gang, w / 6, w % 6, 1), due);
            }
        }
        Due.is("let to all", full.let(), 8);
        for (int gang = 0; gang < 8; gang++) {
            Due.is("wall of " + gang, full.told(gang, 3), gang);
        }
    }

    private static void leastAsk() {
        SlateQuarry x = withGangs(3);
        x.ask(0, 1, 1, 30);
        x.ask(1, 1, 1, 20);
        x.ask(2, 1, 1, 21);
        Due.is("let", x.let(), 1);
        Due.is("the least", x.face(1, 1, 4), 1);
        Due.is("none", x.told(0, 3), SlateQuarry.NONE);
        Due.is("none", x.told(2, 4), 0);
        Due.is("count(4)", x.count(4), 1);
    }

    private static void fewestWalls() {
        SlateQuarry x = withGangs(3);
        int[] due = {0, 1, 2, 0, 1};
        for (int month = 0; month < due.length; month++) {
            for (int gang = 2; gang >= 0; gang--) {
                x.ask(gang, 0, 0, 9);
            }
            Due.is("let", x.let(), 1);
            Due.is("fairly", x.face(0, 0, 4), due[month]);
            Due.is("month", x.month(), month + 1);
        }
        Due.is("walls so far", x.told(1, 2), 2);
        Due.is("walls so far", x.told(2, 2), 1);
        x.ask(1, 0, 0, 8);
        x.ask(2, 0, 0, 9);
        x.let();
        Due.is("the least ask is ahead of the fewest walls", x.face(0, 0, 4), 1);
    }

    /** A lower gallery's wall is let ahead of a higher one's, though the ask there is less. */
    private static void order() {
        SlateQuarry x = withGangs(2);
        x.ask(0, 1, 0, 1);
        x.ask(0, 0, 5, 50);
        x.ask(1, 1, 0, 9);
        x.ask(1, 0, 5, 60);
        Due.is("let", x.let(), 2);
        Due.is("lower first", x.told(0, 3), 5);
        Due.is("one wall a gang", x.told(1, 3), 6);
        Due.is("ask", x.told(0, 4), 50);

        SlateQuarry y = withGangs(1);
        y.ask(0, 2, 4, 1);
        y.ask(0, 2, 3, 2);
        y.let();
        Due.is("lower column first", y.told(0, 3), 15);
    }

    private static void top() {
        SlateQuarry x = withGangs(2);
        Due.is("ask", x.ask(0, 0, 0, 11), 1);
        Due.is("ask", x.ask(1, 0, 1, 10), 2);
        Due.laws(x, "top 10;", 1);
        Due.is("let", x.let(), 1);
        Due.is("above top", x.face(0, 0, 4), SlateQuarry.NONE);
        Due.is("at top", x.face(0, 1, 4), 1);
        x.month();
        Due.laws(x, "top 0;", 1);
        x.ask(0, 0, 0, 1);
        x.ask(1, 0, 0, 0);
        Due.is("top 0", x.let(), 1);
        Due.is("top 0", x.face(0, 0, 4), 1);
        x.month();
        Due.laws(x, "", 0);
        x.ask(0, 0, 0, 9999);
        Due.is("no top", x.let(), 1);
    }

    private static void loose() {
        SlateQuarry x = withGangs(2);
        Due.laws(x, "hang 1;", 1);
        x.ask(0, 2, 0, 0);
        x.let();
        x.work(0, 1, 0);
        Due.is("LOOSE", x.face(3, 0, 2), 1);
        x.month();
        for (int g = 0; g < 4; g++) {
            x.ask(0, g, 0, 0);
        }
        Due.is("none under it, nor itself", x.let(), 0);
        Due.is("walls so far", x.told(0, 2), 1);
        x.month();
        x.ask(0, 3, 0, 0);
        x.ask(0, 4, 0, 0);
        Due.is("one above it", x.let(), 1);
        Due.is("one above it", x.told(0, 3), 24);
        x.month();
        x.clear(3, 0, 1);
        x.ask(0, 1, 0, 0);
        Due.is("cleared", x.let(), 1);
    }

    private static void months() {
        SlateQuarry x = withGangs(1);
        Due.is("not LET", x.month(), SlateQuarry.STATE);
        Due.is("count(2)", x.count(2), 0);
        x.ask(0, 0, 0, 5);
        Due.is("let", x.let(), 1);
        Due.is("let again", x.let(), SlateQuarry.STATE);
        Due.is("walls so far", x.told(0, 2), 1);
        Due.is("count(4)", x.count(4), 1);
        Due.is("month", x.month(), 1);
        Due.is("month again", x.month(), SlateQuarry.STATE);
        Due.is("count(2)", x.count(2), 1);
        Due.is("count(3)", x.count(3), 0);
        Due.is("count(4)", x.count(4), 0);
        Due.is("work", x.work(0, 1, 0), -1000002);
        Due.is("no asks", x.let(), 0);
        Due.is("month", x.month(), 2);
        Due.is("ask anew", x.ask(0, 0, 0, 5), 1);
    }
}
