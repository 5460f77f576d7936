/** Promise 4, laws: the text of THE TAPE in Terms, its TOKENS, bounds and FAULTS. */
public final class Promise04TextTest {
    public static void main(String[] args) {
        everyByteAlone();
        everyByteBetweenTokens();
        everyByteAtTheEnd();
        tokensAreAsLongAsMayBe();
        numbersOfOneToFourFigures();
        numbersThatAreTooLong();
        bounds();
        outOfBounds();
        fault1NoToken();
        fault1NameOfNone();
        fault2TokenThatCanNotStandThere();
        fault2TheEnd();
        fault4OnceTooOften();
        fault5NotAbove();
        theFirstFaultMet();
        Due.end();
    }

    /** "NAMES (a .. z), NUMBERS (1 to 4 figures), one ; ", "blanks (32) between" */
    private static void everyByteAlone() {
        for (char b = 0; b < 256; b++) {
            String text = String.valueOf(b);
            if (b == ' ') {
                Due.laws(new SlateQuarry(), text, 0);
            } else {
                boolean isToken = b == ';' || b >= '0' && b <= '9';
                Due.fault(text, isToken ? 2 : 1, 0);
            }
        }
    }

    private static void everyByteBetweenTokens() {
        for (char b = 0; b < 256; b++) {
            String text = "top" + b + "7;";
            if (b == ' ' || b >= '0' && b <= '9') {
                SlateQuarry x = new SlateQuarry();
                Due.laws(x, text, 1);
                Due.is("top of '" + text + "'", x.law(0), b == ' ' ? 7 : 10 * (b - '0') + 7);
            } else if (b >= 'a' && b <= 'z') {
                Due.fault(text, 1, 0);
            } else {
                Due.fault(text, b == ';' ? 2 : 1, 3);
            }
        }
    }

    private static void everyByteAtTheEnd() {
        for (char b = 0; b < 256; b++) {
            String text = "club 5" + b;
            if (b == ';') {
                Due.laws(new SlateQuarry(), text, 1);
            } else {
                boolean isTheEnd = b == ' ' || b >= '0' && b <= '9';
                Due.fault(text, isTheEnd ? 2 : 1, isTheEnd ? 7 : 6);
            }
            if (b != ' ') {
                Due.fault("club 5;" + b, b == ';' || b >= '0' && b <= '9' ? 2 : 1, 7);
            }
        }
    }

    private static void tokensAreAsLongAsMayBe() {
        SlateQuarry x = new SlateQuarry();
        Due.laws(x, "top7;hang20;tool999;club0;pound0 0;pound9 300;", 6);
        Due.laws(x, "  top  7  ;  hang   20   ;  ", 2);
        Due.fault("tophang 1;", 1, 0);
        Due.fault("to p 1;", 1, 0);
        Due.fault("top 1 2;", 2, 6);
        Due.fault("pound 12;", 3, 6);
        Due.fault("top 12345;", 1, 4);
        Due.fault("top 1234 5;", 2, 9);
        Due.fault("top 1;;", 2, 6);
        Due.fault("top 1; ;", 2, 7);
    }

    private static void numbersOfOneToFourFigures() {
        String[] numbers = {"0", "00", "000", "0000", "7", "07", "007", "0007", "20", "0020"};
        for (String number : numbers) {
            SlateQuarry x = new SlateQuarry();
            Due.laws(x, "club " + number + ";", 1);
            Due.is("club " + number, x.law(3), Integer.parseInt(number));
        }
        SlateQuarry x = new SlateQuarry();
        Due.laws(x, "pound 0009 0300;", 1);
        Due.is("poundage", x.law(19), 300);
    }

    /** "a NUMBER that is too long (its first byte)", also where fewer bits of it would be in bounds. */
    private static void numbersThatAreTooLong() {
        Due.fault("top 00000;", 1, 4);
        Due.fault("top 10000;", 1, 4);
        Due.fault("top 99999;", 1, 4);
        Due.fault("top 65537;", 1, 4);
        Due.fault("top 4294967297;", 1, 4);
        Due.fault("top 18446744073709551617;", 1, 4);
        Due.fault("top " + "0".repeat(194) + "1;", 1, 4);
        Due.fault("  12345", 1, 2);
        Due.fault("pound 1 00000;", 1, 8);
        Due.fault("pound 00001 1;", 1, 6);
        Due.fault("hang 00021;", 1, 5);
    }

    /** "top 0 to 9999, hang 1 to 20, tool 0 to 999, club 0 to 100, pound: GOODNESS 0 to 9, of a hundred 0 to 300" */
    private static void bounds() {
        SlateQuarry x = new SlateQuarry();
        Due.laws(x, "top 0;hang 1;tool 0;club 0;pound 0 0;", 5);
        Due.is("top 0", x.law(0), 0);
        Due.is("hang 1", x.law(1), 1);
        Due.laws(x, "top 9999;hang 20;tool 999;club 100;pound 9 300;", 5);
        Due.is("top 9999", x.law(0), 9999);
        Due.is("hang 20", x.law(1), 20);
        Due.is("tool 999", x.law(2), 999);
        Due.is("club 100", x.law(3), 100);
        Due.is("pound 9 300", x.law(19), 300);
    }

    /** "3 a NUMBER out of its bounds." */
    private static void outOfBounds() {
        Due.fault("hang 0;", 3, 5);
        Due.fault("hang 0000;", 3, 5);
        Due.fault("hang 21;", 3, 5);
        Due.fault("hang 9999;", 3, 5);
        Due.fault("tool 1000;", 3, 5);
        Due.fault("tool 9999;", 3, 5);
        Due.fault("club 101;", 3, 5);
        Due.fault("club 256;", 3, 5);
        Due.fault("pound 10 1;", 3, 6);
        Due.fault("pound 3 301;", 3, 8);
        Due.fault("pound 3 9999;", 3, 8);
        Due.fault("pound 3 1;pound 10 1;", 3, 16);
        Due.fault("pound 3 1;pound 4 301;", 3, 18);
    }

    private static void fault1NoToken() {
        Due.fault("top 1;\ttool 1;", 1, 6);
        Due.fault("top\u00001;", 1, 3);
        Due.fault("top \u00ff;", 1, 4);
        Due.fault("top -1;", 1, 4);
        Due.fault("top +1;", 1, 4);
        Due.fault("top 1,", 1, 5);
        Due.fault("top 1;.", 1, 6);
        Due.fault("pound 1 !", 1, 8);
        Due.fault("pound 1 1 !", 1, 10);
    }

    /** "a NAME that is none of these", wherever it stands. */
    private static void fault1NameOfNone() {
        for (String name : new String[] {"a", "z", "to", "tap", "xop", "tox", "topp", "topa", "topz", "hong", "hangs",
            "too", "tools", "clubs", "clu", "poun", "pounds", "Top", "tOP"}) {
            Due.fault(name + " 1 1;", 1, 0);
        }
        Due.fault("poundA 1 1;", 1, 5);
        Due.fault("top x;", 1, 4);
        Due.fault("top 1 x", 1, 6);
        Due.fault("pound 1 x", 1, 8);
        Due.fault("pound 1 1 x", 1, 10);
        Due.fault("top 1;x", 1, 6);
    }

    private static void fault2TokenThatCanNotStandThere() {
        Due.fault(";", 2, 0);
        Due.fault(" 7", 2, 1);
        Due.fault("7 top;", 2, 0);
        Due.fault("top;", 2, 3);
        Due.fault("top top", 2, 4);
        Due.fault("top 1 top", 2, 6);
        Due.fault("top 1 2", 2, 6);
        Due.fault("hang 1 2;", 2, 7);
        Due.fault("top 1; 2;", 2, 7);
        Due.fault("pound;", 2, 5);
        Due.fault("pound pound", 2, 6);
        Due.fault("pound 3;", 2, 7);
        Due.fault("pound 3 pound", 2, 8);
        Due.fault("pound 3 4 5;", 2, 10);
        Due.fault("pound 3 4 pound", 2, 10);
    }

    /** "(or the end: the length)", with blanks ahead of it, too. */
    private static void fault2TheEnd() {
        Due.fault("top", 2, 3);
        Due.fault("top   ", 2, 6);
        Due.fault("top 1", 2, 5);
        Due.fault("top 1    ", 2, 9);
        Due.fault("pound", 2, 5);
        Due.fault("pound 3", 2, 7);
        Due.fault("pound 3 4", 2, 9);
        Due.fault("pound 3 4 ", 2, 10);
        Due.fault("tool 1;club", 2, 11);
    }

    /** "each but pound once at most, pound 4 times": "4 a law told once too often (its NAME)." */
    private static void fault4OnceTooOften() {
        Due.fault("top 1;top 2;", 4, 6);
        Due.fault("hang 1; hang 1;", 4, 8);
        Due.fault("tool 0;tool 0;", 4, 7);
        Due.fault("club 0;club 0;", 4, 7);
        Due.fault("top 1;hang 1;tool 1;club 1;top 1;", 4, 27);
        Due.laws(new SlateQuarry(), "pound 0 1;pound 1 1;pound 2 1;pound 3 1;", 4);
        Due.fault("pound 0 1;pound 1 1;pound 2 1;pound 3 1;pound 4 1;", 4, 40);
        Due.fault("pound 0 1;top 1;pound 1 1;pound 2 1;pound 3 1;hang 1;pound 4 1;", 4, 53);
    }

    /** "5 a pound whose GOODNESS is not above that of the pound told ahead (at it)." */
    private static void fault5NotAbove() {
        Due.laws(new SlateQuarry(), "pound 0 1;pound 1 1;", 2);
        Due.laws(new SlateQuarry(), "pound 8 1;top 3;pound 9 1;", 3);
        Due.fault("pound 0 1;pound 0 1;", 5, 16);
        Due.fault("pound 9 1;pound 9 2;", 5, 16);
        Due.fault("pound 3 1;pound 2 1;", 5, 16);
        Due.fault("pound 3 1;top 1;pound 3 1;", 5, 22);
        Due.fault("pound 1 1;pound 5 1;pound 3 1;", 5, 26);
        Due.fault("pound 1 1;pound 2 1;pound 3 1;pound 0003 1;", 5, 36);
    }

    /** "the first met as it is read (a TOKEN is read when the one before has been taken)" */
    private static void theFirstFaultMet() {
        Due.fault("hang 21 *", 3, 5);
        Due.fault("hang 21", 3, 5);
        Due.fault("hang *;hang 21;", 1, 5);
        Due.fault("pound 10 x", 3, 6);
        Due.fault("pound 3 301 x", 3, 8);
        Due.fault("top 1;top x", 4, 6);
        Due.fault("top 1;top", 4, 6);
        Due.fault("hang 1;hang 21;", 4, 7);
        Due.fault("pound 3 1;pound 2 301;", 5, 16);
        Due.fault("pound 3 1;pound 2", 5, 16);
        Due.fault("pound 3 1;pound 2 *", 5, 16);
        Due.fault("pound 9 1;pound 10 1;", 3, 16);
        Due.fault("pound 0 1;pound 1 1;pound 2 1;pound 3 1;pound 3 1;", 4, 40);
        Due.fault("top 1;; *", 2, 6);
        Due.fault("tap *", 1, 0);
        Due.fault("top 1 hang 21;", 2, 6);
        Due.fault("top 1;top 2;hang 0;*", 4, 6);
    }
}
