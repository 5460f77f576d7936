/** Promise 14, let: "This MONTH is LET: how many WALLS. STATE: it is so already.", and the LETTING of Terms. */
public final class Promise14LetTest {
    public static void main(String[] args) {
        withoutGangsOrAsks();
        howManyWalls();
        itIsSoAlready();
        wallsByGalleriesThenColumns();
        theLeastAsk();
        ofLikeAsksTheFewestWalls();
        thenTheLeastNumber();
        theLeastAskIsAheadOfTheFewestWalls();
        oneWallForAGang();
        notAboveTop();
        aWallWhoseLeastAskIsAboveTop();
        notUnderALooseWall();
        looseWallsAreLetWhenCleared();
        Due.end();
    }

    private static void withoutGangsOrAsks() {
        SlateQuarry x = new SlateQuarry();
        Due.is("no gangs", x.let(), 0);
        x.month();
        x.gang(1);
        Due.is("no asks", x.let(), 0);
        Due.is("no wall", x.told(0, 3), Due.NONE);
        Due.is("count(4)", x.count(4), 0);
    }

    private static void howManyWalls() {
        for (int n = 1; n <= 8; n++) {
            SlateQuarry x = Past.withGangs(n);
            for (int gang = 0; gang < n; gang++) {
                for (int w = 29; w > 18; w--) {
                    x.ask(gang, w / 6, w % 6, 3);
                }
            }
            Due.is("let to " + n, x.let(), n);
            Due.is("count(4)", x.count(4), n);
            for (int gang = 0; gang < n; gang++) {
                Due.is("wall of " + gang, x.told(gang, 3), 19 + gang);
            }
        }
        SlateQuarry x = Past.withGangs(8);
        for (int gang = 0; gang < 8; gang++) {
            x.ask(gang, 2, 2, 3);
        }
        Due.is("all ask for one wall", x.let(), 1);
    }

    private static void itIsSoAlready() {
        Refused.is("let again", Past::let, SlateQuarry::let, Due.STATE);
        Refused.is("let again without asks", SlateQuarry::let, SlateQuarry::let, Due.STATE);
        SlateQuarry x = Past.gangAtWall("", 1, 5);
        Due.is("let again", x.let(), Due.STATE);
        Due.is("walls so far", x.told(0, 2), 1);
        Due.is("let again", x.let(), Due.STATE);
        x.month();
        Due.is("the next month", x.let(), 0);
    }

    /** "WALLS by GALLERIES from the lowest, then COLUMNS, are LET one by one", though the ask for a later is less. */
    private static void wallsByGalleriesThenColumns() {
        for (int w = 0; w < 29; w++) {
            SlateQuarry x = Past.withGangs(1);
            for (int later = 29; later >= w; later--) {
                x.ask(0, later / 6, later % 6, 29 - later);
            }
            Due.is("let", x.let(), 1);
            Due.is("the first wall", x.told(0, 3), w);
            Due.is("its ask", x.told(0, 4), 29 - w);
        }
        SlateQuarry x = Past.withGangs(2);
        x.ask(0, 1, 0, 1);
        x.ask(0, 0, 5, 50);
        x.ask(1, 1, 0, 9);
        x.ask(1, 0, 5, 60);
        Due.is("let", x.let(), 2);
        Due.is("the lower gallery's is let first", x.told(0, 3), 5);
        Due.is("the other gang gets the later one", x.told(1, 3), 6);
        Due.is("for its own ask", x.told(1, 4), 9);
    }

    private static void theLeastAsk() {
        for (int least = 0; least < 8; least++) {
            SlateQuarry x = Past.withGangs(8);
            for (int gang = 0; gang < 8; gang++) {
                x.ask(gang, 1, 1, gang == least ? 20 : 21 + gang);
            }
            Due.is("let", x.let(), 1);
            Due.is("the least", x.face(1, 1, 4), least);
            Due.is("its ask", x.told(least, 4), 20);
        }
        SlateQuarry x = Past.withGangs(2);
        x.ask(0, 1, 1, 1);
        x.ask(1, 1, 1, 0);
        x.let();
        Due.is("0 is the least", x.face(1, 1, 4), 1);
    }

    private static void ofLikeAsksTheFewestWalls() {
        SlateQuarry x = Past.withGangs(3);
        int[] due = {0, 1, 2, 0, 1};
        for (int month = 0; month < due.length; month++) {
            for (int gang = 2; gang >= 0; gang--) {
                x.ask(gang, 0, 0, 9);
            }
            Due.is("let", x.let(), 1);
            Due.is("fairly", x.face(0, 0, 4), due[month]);
            x.month();
        }
        int[] walls = {2, 2, 1};
        for (int gang = 0; gang < 3; gang++) {
            Due.is("walls so far", x.told(gang, 2), walls[gang]);
        }
    }

    private static void thenTheLeastNumber() {
        for (int first = 0; first < 8; first++) {
            SlateQuarry x = Past.withGangs(8);
            for (int gang = 7; gang >= first; gang--) {
                x.ask(gang, 4, 5, 9999);
            }
            x.let();
            Due.is("the least number", x.face(4, 5, 4), first);
        }
    }

    private static void theLeastAskIsAheadOfTheFewestWalls() {
        SlateQuarry x = Past.gangAtWall("", 1, 5);
        x.gang(1);
        x.month();
        x.ask(0, 0, 0, 8);
        x.ask(1, 0, 0, 9);
        x.let();
        Due.is("the least", x.face(0, 0, 4), 0);
    }

    /** "of GANGS that have no WALL in this MONTH": a like or greater ask of another gang comes in its place. */
    private static void oneWallForAGang() {
        SlateQuarry x = Past.withGangs(3);
        for (int c = 0; c < 4; c++) {
            x.ask(0, 0, c, 1);
            x.ask(1, 0, c, 2);
            x.ask(2, 0, c, 3);
        }
        Due.is("let", x.let(), 3);
        for (int c = 0; c < 3; c++) {
            Due.is("wall " + c, x.face(0, c, 4), c);
        }
        Due.is("none is left for the fourth", x.face(0, 3, 4), Due.NONE);
    }

    /** "top 0 to 9999 (no ask above it is let)" */
    private static void notAboveTop() {
        for (int top : new int[] {0, 1, 10, 9998, 9999}) {
            for (int pence = Math.max(0, top - 1); pence <= Math.min(9999, top + 1); pence++) {
                SlateQuarry x = Past.withGangs(1);
                Due.laws(x, "top " + top + ";", 1);
                x.ask(0, 0, 0, pence);
                Due.is(pence + " with top " + top, x.let(), pence <= top ? 1 : 0);
                Due.is("walls so far", x.told(0, 2), pence <= top ? 1 : 0);
                Due.is("its wall", x.told(0, 3), pence <= top ? 0 : Due.NONE);
            }
        }
        SlateQuarry x = Past.withGangs(1);
        x.ask(0, 0, 0, 9999);
        Due.is("no top", x.let(), 1);
    }

    private static void aWallWhoseLeastAskIsAboveTop() {
        SlateQuarry x = Past.withGangs(1);
        Due.laws(x, "top 10;", 1);
        x.ask(0, 0, 0, 11);
        x.ask(0, 3, 3, 10);
        Due.is("let", x.let(), 1);
        Due.is("the later wall", x.told(0, 3), 21);
    }

    /** "None is LET that may not be worked: it is LOOSE, or any WALL above it in its COLUMN is." */
    private static void notUnderALooseWall() {
        for (int loose = 1; loose <= 4; loose++) {
            for (int g = 0; g <= 4; g++) {
                SlateQuarry x = Past.withGangs(1);
                loosen(x, loose, 3);
                x.ask(0, g, 3, 0);
                Due.is("wall " + g + " with " + loose + " LOOSE", x.let(), g > loose ? 1 : 0);
                Due.is("its wall", x.told(0, 3), g > loose ? 6 * g + 3 : Due.NONE);
                x.month();
                x.ask(0, g, 2, 0);
                x.ask(0, g, 3, 0);
                Due.is("another column", x.let(), 1);
                Due.is("its wall", x.told(0, 3), 6 * g + 2);
            }
        }
    }

    private static void loosen(SlateQuarry x, int g, int c) {
        Due.laws(x, "hang 1;", 1);
        x.ask(0, g - 1, c, 0);
        x.let();
        x.work(0, 1, 0);
        Due.is("LOOSE", x.face(g, c, 2), 1);
        x.month();
    }

    private static void looseWallsAreLetWhenCleared() {
        SlateQuarry x = Past.withGangs(1);
        loosen(x, 3, 0);
        x.ask(0, 1, 0, 0);
        x.clear(3, 0, 0);
        Due.is("cleared ahead of the letting", x.let(), 1);
        x.month();
        loosen(x, 3, 0);
        x.ask(0, 1, 0, 0);
        Due.is("LOOSE", x.let(), 0);
        x.clear(3, 0, 0);
        Due.is("cleared behind the letting", x.told(0, 3), Due.NONE);
    }
}
