/**
 * Promise 4, laws: "THE TAPE (empty then) tells all laws: how many; -10 less the place of its FAULT:
 * those that were told stay. (They count from now on.)"
 */
public final class Promise04LawsTest {
    public static void main(String[] args) {
        anEmptyTextTellsNone();
        howMany();
        theTapeIsEmptyThen();
        theTapeTellsAllLaws();
        faultsLieAtTheirPlaces();
        thoseThatWereToldStay();
        topCountsFromNowOn();
        hangCountsFromNowOn();
        payCountsFromNowOn();
        Due.end();
    }

    /** "text: { law }" */
    private static void anEmptyTextTellsNone() {
        SlateQuarry x = new SlateQuarry();
        Due.laws(x, "", 0);
        Due.laws(x, " ", 0);
        Due.laws(x, " ".repeat(199), 0);
        Due.laws(x, " ".repeat(200), 0);
    }

    private static void howMany() {
        SlateQuarry x = new SlateQuarry();
        Due.laws(x, "tool 0;", 1);
        Due.laws(x, "pound 5 5;", 1);
        Due.laws(x, "pound 5 5;club 1;", 2);
        Due.laws(x, "top 50;hang 2;tool 3;club 10;pound 2 150;pound 5 40;", 6);
        Due.laws(x, "pound 0 0;club 0;pound 1 1;tool 999;pound 2 2;hang 20;pound 9 300;top 9999;", 8);
        Due.is("count(9)", x.count(9), 8);
    }

    private static void theTapeIsEmptyThen() {
        SlateQuarry x = new SlateQuarry();
        Due.laws(x, "top 5;", 1);
        Due.is("behind laws", x.end(0), 0);
        Due.is("laws of nothing", x.laws(), 0);
        for (String text : new String[] {"*", "top", "hang 0;", "top 1;top 2;", "pound 1 1;pound 1 1;"}) {
            Due.tape(x, text);
            Due.holds("a fault of " + text, x.laws() <= -10);
            Due.is("behind a fault of " + text, x.end(0), 0);
        }
        Due.tape(x, "top 5;*");
        Due.is("a fault", x.laws(), -16);
        Due.is("laws of nothing", x.laws(), 0);
    }

    /** "tells all laws": those of an earlier text are told no more. */
    private static void theTapeTellsAllLaws() {
        SlateQuarry x = new SlateQuarry();
        Due.laws(x, "top 5;hang 6;tool 7;club 8;pound 2 7;pound 9 8;", 6);
        Due.laws(x, "club 9;", 1);
        Due.is("club", x.law(3), 9);
        Due.is("top is told no more", x.law(0), Due.NONE);
        Due.is("hang is told no more", x.law(1), Due.NONE);
        Due.is("tool is told no more", x.law(2), 0);
        Due.is("pounds are told no more", x.law(12), 0);
        Due.is("pounds are told no more", x.law(19), 0);
        Due.is("count(9)", x.count(9), 1);
        Due.laws(x, "pound 3 5;pound 9 6;", 2);
        Due.laws(x, "pound 1 4;", 1);
        Due.is("the pound", x.law(11), 4);
        Due.is("an earlier pound", x.law(12), 0);
        Due.laws(x, "", 0);
        Due.is("club is told no more", x.law(3), 0);
        Due.is("no pound", x.law(10), 0);
        Due.is("count(9)", x.count(9), 0);
        Due.laws(x, "top 5;", 1);
        Due.laws(x, "top 6;", 1);
        Due.is("once in each text is not too often", x.law(0), 6);
    }

    private static void faultsLieAtTheirPlaces() {
        Due.fault("*", 1, 0);
        Due.fault(" *", 1, 1);
        Due.fault(" ".repeat(199) + "*", 1, 199);
        Due.fault(" ".repeat(197) + "top", 2, 200);
        Due.fault("top" + " ".repeat(197), 2, 200);
        Due.fault("a".repeat(200), 1, 0);
        Due.fault("9".repeat(200), 1, 0);
    }

    private static void thoseThatWereToldStay() {
        String[] faulty = {"*", "top 60;hang 3;tool 1;pound 3 8;club 1", "hang 9;hang 9;", "tool 1000;",
            "pound 1 1;pound 2 2;pound 0 3;", ";"};
        for (String text : faulty) {
            SlateQuarry x = new SlateQuarry();
            Due.laws(x, "top 50;hang 2;pound 3 9;", 3);
            Due.tape(x, text);
            Due.holds("a fault of " + text, x.laws() <= -10);
            Due.is("top stays", x.law(0), 50);
            Due.is("hang stays", x.law(1), 2);
            Due.is("tool stays", x.law(2), 0);
            Due.is("club stays", x.law(3), 0);
            Due.is("poundage stays", x.law(10), 9);
            Due.is("poundage stays", x.law(13), 9);
            Due.is("poundage stays", x.law(14), 0);
            Due.is("count(9) stays", x.count(9), 3);
            Due.laws(x, "tool 1;pound 2 5;", 2);
            Due.is("nothing is left of the faulty text", x.law(13), 0);
            Due.is("top goes with a good text", x.law(0), Due.NONE);
        }
    }

    /** A top told behind the asks counts; one told behind the letting takes no wall away. */
    private static void topCountsFromNowOn() {
        SlateQuarry x = Past.withGangs(2);
        x.ask(0, 0, 0, 11);
        x.ask(1, 0, 1, 10);
        Due.laws(x, "top 10;", 1);
        Due.is("let", x.let(), 1);
        Due.laws(x, "top 9;", 1);
        Due.is("the wall stays", x.told(1, 3), 1);
        Due.is("its ask is paid", x.work(1, 1, 0), 10);
    }

    /** Hang is looked at behind a block: a law alone makes no wall loose, and none firm. */
    private static void hangCountsFromNowOn() {
        SlateQuarry x = Past.gangAtWall("", 1, 0);
        for (int i = 0; i < 5; i++) {
            x.work(0, 1, 0);
        }
        Due.laws(x, "hang 2;", 1);
        Due.is("not yet", x.count(5), 0);
        x.work(0, 1, 0);
        Due.is("behind the next block", x.face(1, 0, 2), 1);
        Due.laws(x, "", 0);
        Due.is("LOOSE until it is cleared", x.face(1, 0, 2), 1);
        x.clear(1, 0, 0);
        x.work(0, 1, 0);
        Due.is("no hang any more", x.count(5), 0);
    }

    private static void payCountsFromNowOn() {
        SlateQuarry x = Past.gangAtWall("club 50;pound 9 100;", 3, 10);
        x.size(1, 10);
        Due.is("half of 10, 10 and 10", x.work(0, 1, 0), 15);
        Due.laws(x, "tool 7;", 1);
        Due.is("10 and 10", x.work(0, 1, 0), 20);
        Due.is("the first block was worked ahead of this tool", x.told(0, 1), 35);
        x.month();
        x.ask(0, 0, 0, 0);
        x.let();
        x.work(0, 1, 0);
        Due.is("tool of the next month", x.told(0, 1), 24);
    }
}
