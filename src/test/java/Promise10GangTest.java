/** Promise 10, gang: "A GANG: its number. BAD; FULL." */
public final class Promise10GangTest {
    public static void main(String[] args) {
        numberedAsTheyCome();
        oneToSixMen();
        noSuchMen();
        eightAreFull();
        badIsAheadOfFull();
        comesInALetMonth();
        Due.end();
    }

    private static void numberedAsTheyCome() {
        SlateQuarry x = new SlateQuarry();
        for (int i = 0; i < 8; i++) {
            Due.is("gang", x.gang(i % 6 + 1), i);
            Due.is("count(0)", x.count(0), i + 1);
        }
        for (int i = 0; i < 8; i++) {
            Due.is("MEN of " + i, x.told(i, 0), i % 6 + 1);
        }
    }

    /** "each of 1 to 6 MEN, with an ACCOUNT (pence; 0 at first)" */
    private static void oneToSixMen() {
        for (int men = 1; men <= 6; men++) {
            SlateQuarry x = new SlateQuarry();
            Due.is("gang(" + men + ")", x.gang(men), 0);
            Due.is("MEN", x.told(0, 0), men);
            Due.is("ACCOUNT", x.told(0, 1), 0);
        }
    }

    private static void noSuchMen() {
        for (int men : Due.outside(1, 6)) {
            Refused.is("gang(" + men + ")", Past::open, x -> x.gang(men), Due.BAD);
        }
        SlateQuarry x = new SlateQuarry();
        x.gang(0);
        x.gang(7);
        Due.is("a refused one takes no number", x.gang(1), 0);
    }

    /** "GANGS (8)" */
    private static void eightAreFull() {
        SlateQuarry x = Past.withGangs(8);
        Due.is("a ninth", x.gang(1), Due.FULL);
        for (int men = 1; men <= 6; men++) {
            int many = men;
            Refused.is("a ninth of " + men, Past::full, y -> y.gang(many), Due.FULL);
        }
    }

    private static void badIsAheadOfFull() {
        Refused.is("gang(0)", Past::full, x -> x.gang(0), Due.BAD);
        Refused.is("gang(7)", Past::full, x -> x.gang(7), Due.BAD);
    }

    private static void comesInALetMonth() {
        SlateQuarry x = new SlateQuarry();
        x.let();
        Due.is("gang", x.gang(2), 0);
        Due.is("it has no wall", x.told(0, 3), Due.NONE);
        Due.is("it may not work", x.work(0, 1, 0), Due.FAR_STATE);
    }
}
