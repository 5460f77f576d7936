/** Promises 1 to 6: a new object, feed, end, laws, fault, law. */
public final class LawsTest {
    public static void main(String[] args) {
        newObject();
        feed();
        end();
        tellsLaws();
        lawNumbers();
        poundage();
        poundsAreForgotten();
        bounds();
        faultsOfTokens();
        faultsOfPlaces();
        faultsOfNumbers();
        faultsOfOftenAndOrder();
        refusedLawsKeepTheOld();
        Due.end();
    }

    private static void newObject() {
        SlateQuarry x = new SlateQuarry();
        for (int what = 0; what <= 9; what++) {
            Due.is("new count(" + what + ")", x.count(what), 0);
        }
        Due.is("new fault()", x.fault(), 0);
        Due.is("new end(0)", x.end(0), 0);
        Due.is("new law(0)", x.law(0), SlateQuarry.NONE);
        Due.is("new law(1)", x.law(1), SlateQuarry.NONE);
        Due.is("new law(2)", x.law(2), 0);
        Due.is("new law(3)", x.law(3), 0);
        for (int k = 0; k < 4; k++) {
            Due.is("new lay(" + k + ")", x.lay(k, 0, 0), -11);
        }
        for (int g = 0; g < 5; g++) {
            for (int c = 0; c < 6; c++) {
                Due.is("new GOODNESS", x.face(g, c, 0), 5);
                Due.is("new STEPS", x.face(g, c, 1), 0);
                Due.is("new LOOSE", x.face(g, c, 2), 0);
                Due.is("new workable", x.face(g, c, 3), 1);
                Due.is("new holder", x.face(g, c, 4), SlateQuarry.NONE);
            }
        }
        Due.is("new told(0, 0)", x.told(0, 0), -1000000);
        Due.is("new slates(0)", x.slates(0), SlateQuarry.BAD);
        Due.is("new month()", x.month(), SlateQuarry.STATE);
    }

    private static void feed() {
        SlateQuarry x = new SlateQuarry();
        for (int i = 1; i <= 25; i++) {
            Due.is("feed", x.feed(0x2020202020202020L), 8 * i);
        }
        Due.is("feed to 208", x.feed(0), SlateQuarry.FULL);
        Due.is("end behind FULL", x.end(193), 200);
        Due.is("feed to 201", x.feed(0), SlateQuarry.FULL);
        Due.is("end(192)", x.end(192), 193);
        Due.is("feed to 200", x.feed(0x746F7020373B2020L), 200);
        Due.is("laws of a full tape", x.laws(), 1);
        Due.is("the highest byte is first", x.law(0), 7);
        Due.is("the tape is empty then", x.feed(0), 8);
    }

    private static void end() {
        SlateQuarry x = new SlateQuarry();
        Due.is("end(-1)", x.end(-1), SlateQuarry.BAD);
        Due.is("end(1) of nothing", x.end(1), SlateQuarry.BAD);
        Due.is("end(MIN)", x.end(Integer.MIN_VALUE), SlateQuarry.BAD);
        x.feed(0x746F70373B3B3B3BL);
        Due.is("end(9)", x.end(9), SlateQuarry.BAD);
        Due.is("end(MAX)", x.end(Integer.MAX_VALUE), SlateQuarry.BAD);
        Due.is("end(8)", x.end(8), 8);
        Due.is("end(5)", x.end(5), 8);
        Due.is("end(5) again", x.end(5), 5);
        Due.is("laws of 'top7;'", x.laws(), 1);
    }

    private static void tellsLaws() {
        SlateQuarry x = new SlateQuarry();
        Due.laws(x, "", 0);
        Due.laws(x, "        ", 0);
        Due.laws(x, "top 50;hang 2;tool 3;club 10;pound 2 150;pound 5 40;", 6);
        Due.is("count(9)", x.count(9), 6);
        Due.laws(x, "  top7;hang   20 ;tool0999;club0;pound0 0;pound1 1;pound2 2;pound9 300;  ", 8);
        Due.is("count(9)", x.count(9), 8);
        Due.is("top", x.law(0), 7);
        Due.is("hang", x.law(1), 20);
        Due.is("tool", x.law(2), 999);
        Due.laws(x, "club 5;", 1);
        Due.is("club", x.law(3), 5);
        Due.is("top is told no more", x.law(0), SlateQuarry.NONE);
        Due.is("hang is told no more", x.law(1), SlateQuarry.NONE);
        Due.is("tool is told no more", x.law(2), 0);
        Due.is("pounds are told no more", x.law(19), 0);
        Due.is("count(9)", x.count(9), 1);
        Due.laws(x, "", 0);
        Due.is("count(9)", x.count(9), 0);
        Due.is("club is told no more", x.law(3), 0);
    }

    private static void lawNumbers() {
        SlateQuarry x = new SlateQuarry();
        Due.laws(x, "club 4;tool 3;hang 2;top 1;", 4);
        for (int what = 0; what < 4; what++) {
            Due.is("law(" + what + ")", x.law(what), what + 1);
        }
        for (int what : new int[] {-1, 4, 5, 9, 20, 21, Integer.MIN_VALUE, Integer.MAX_VALUE}) {
            Due.is("law(" + what + ")", x.law(what), SlateQuarry.BAD);
        }
        Due.laws(x, "top 0;", 1);
        Due.is("top 0 is not none", x.law(0), 0);
    }

    private static void poundage() {
        SlateQuarry x = new SlateQuarry();
        Due.laws(x, "pound 1 300;pound 4 0;pound 5 20;pound 8 7;", 4);
        int[] due = {300, 300, 0, 0, 0, 20, 7, 7, 7, 0};
        for (int goodness = 0; goodness < 10; goodness++) {
            Due.is("law(1" + goodness + ")", x.law(10 + goodness), due[goodness]);
        }
    }

    private static void poundsAreForgotten() {
        SlateQuarry x = new SlateQuarry();
        Due.laws(x, "pound 2 7;pound 9 8;", 2);
        Due.laws(x, "pound 3 5;pound 9 6;", 2);
        Due.laws(x, "pound 1 4;", 1);
        Due.is("told", x.law(11), 4);
        Due.is("told no more", x.law(12), 0);
        Due.laws(x, "", 0);
        Due.is("told no more", x.law(10), 0);
        Due.is("told no more", x.law(19), 0);
    }

    private static void bounds() {
        SlateQuarry x = new SlateQuarry();
        Due.laws(x, "top 0;hang 1;tool 0;club 0;pound 0 0;", 5);
        Due.laws(x, "top 9999;hang 20;tool 999;club 100;pound 9 300;", 5);
        Due.is("top 9999", x.law(0), 9999);
        Due.is("club 100", x.law(3), 100);
        Due.is("pound 9 300", x.law(10), 300);
    }

    private static void faultsOfTokens() {
        SlateQuarry x = new SlateQuarry();
        Due.fault(x, "tap 1;", 1, 0);
        Due.fault(x, "topp 1;", 1, 0);
        Due.fault(x, "to 1;", 1, 0);
        Due.fault(x, "xop 1;", 1, 0);
        Due.fault(x, "topz 1;", 1, 0);
        Due.fault(x, "topa 1;", 1, 0);
        Due.fault(x, "pounds 1 1;", 1, 0);
        Due.fault(x, "Top 1;", 1, 0);
        Due.fault(x, "tophang 1;", 1, 0);
        Due.fault(x, "top 1;\ttool 1;", 1, 6);
        Due.fault(x, "top\u00001;", 1, 3);
        Due.fault(x, "top \u00ff;", 1, 4);
        Due.fault(x, "top 1,", 1, 5);
        Due.fault(x, "top -1;", 1, 4);
        Due.fault(x, "top 00001;", 1, 4);
        Due.fault(x, "top 4294967297;", 1, 4);
        Due.fault(x, "  12345", 1, 2);
        Due.fault(x, "top x;", 1, 4);
        Due.fault(x, "top 1 x", 1, 6);
        Due.fault(x, "{", 1, 0);
        Due.fault(x, "`", 1, 0);
        Due.fault(x, "/", 1, 0);
        Due.fault(x, ":", 1, 0);
    }

    private static void faultsOfPlaces() {
        SlateQuarry x = new SlateQuarry();
        Due.fault(x, "top", 2, 3);
        Due.fault(x, "top   ", 2, 6);
        Due.fault(x, "top 1", 2, 5);
        Due.fault(x, "top 1    ", 2, 9);
        Due.fault(x, "top;", 2, 3);
        Due.fault(x, "top top", 2, 4);
        Due.fault(x, "top 1 2;", 2, 6);
        Due.fault(x, "top 1 top", 2, 6);
        Due.fault(x, ";", 2, 0);
        Due.fault(x, "top 1;;", 2, 6);
        Due.fault(x, " 7", 2, 1);
        Due.fault(x, "pound 3;", 2, 7);
        Due.fault(x, "pound 3 pound", 2, 8);
        Due.fault(x, "pound 3 4 5;", 2, 10);
        Due.fault(x, "pound 3 4", 2, 9);
    }

    private static void faultsOfNumbers() {
        SlateQuarry x = new SlateQuarry();
        Due.fault(x, "hang 0;", 3, 5);
        Due.fault(x, "hang 21", 3, 5);
        Due.fault(x, "tool 1000;", 3, 5);
        Due.fault(x, "club 101;", 3, 5);
        Due.fault(x, "pound 10 1;", 3, 6);
        Due.fault(x, "pound 3 301;", 3, 8);
        Due.fault(x, "pound 10 x", 3, 6);
        Due.fault(x, "pound 3 301 x", 3, 8);
        Due.fault(x, "pound 3 1;pound 10 1;", 3, 16);
    }

    private static void faultsOfOftenAndOrder() {
        SlateQuarry x = new SlateQuarry();
        Due.fault(x, "top 1;top 2;", 4, 6);
        Due.fault(x, "hang 1; hang x", 4, 8);
        Due.fault(x, "tool 0;tool 0;", 4, 7);
        Due.fault(x, "club 0;club", 4, 7);
        Due.fault(x, "pound 0 1;pound 1 1;pound 2 1;pound 3 1;pound 4 1;", 4, 40);
        Due.fault(x, "pound 0 1;pound 1 1;pound 2 1;pound 3 1;pound 3 1;", 4, 40);
        Due.fault(x, "pound 3 1;pound 3 2;", 5, 16);
        Due.fault(x, "pound 3 1;pound 2 301;", 5, 16);
        Due.fault(x, "pound 3 1;top 1;pound 2", 5, 22);
        Due.fault(x, "pound 0 1;pound 0 1;", 5, 16);
    }

    private static void refusedLawsKeepTheOld() {
        SlateQuarry x = new SlateQuarry();
        Due.laws(x, "top 50;hang 2;pound 3 9;", 3);
        Due.fault(x, "top 60;hang 3;tool 1;pound 3 8;club 1", 2, 37);
        Due.is("fault() again", x.fault(), 2);
        Due.is("top stays", x.law(0), 50);
        Due.is("hang stays", x.law(1), 2);
        Due.is("tool stays", x.law(2), 0);
        Due.is("poundage stays", x.law(13), 9);
        Due.is("count(9) stays", x.count(9), 3);
        Due.laws(x, "tool 1;", 1);
        Due.is("top goes with a good text", x.law(0), SlateQuarry.NONE);
    }
}
