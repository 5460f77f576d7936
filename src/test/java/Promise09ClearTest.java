/**
 * Promise 9, clear: "A LOOSE WALL is cleared by a GANG: 20 pence for each MAN come to its ACCOUNT: 1. BAD;
 * STATE: it is not LOOSE."
 */
public final class Promise09ClearTest {
    public static void main(String[] args) {
        isCleared();
        twentyPenceForEachMan();
        byAnyGang();
        noWall();
        noGang();
        notLoose();
        badIsAheadOfState();
        looseAnewBehindTheNextBlock();
        Due.end();
    }

    private static SlateQuarry withLooseWall(int men) {
        SlateQuarry x = Past.gangAtWall("hang 1;", men, 0);
        x.work(0, 1, 0);
        Due.is("LOOSE", x.face(1, 0, 2), 1);
        return x;
    }

    private static void isCleared() {
        SlateQuarry x = withLooseWall(1);
        Due.is("clear", x.clear(1, 0, 0), 1);
        Due.is("LOOSE", x.face(1, 0, 2), 0);
        Due.is("may be worked", x.face(1, 0, 3), 1);
        Due.is("the one under it", x.face(0, 0, 3), 1);
        Due.is("count(5)", x.count(5), 0);
        Due.is("STEPS stay", x.face(0, 0, 1), 1);
        Due.is("work", x.work(0, 1, 0), 0);
    }

    private static void twentyPenceForEachMan() {
        for (int men = 1; men <= 6; men++) {
            SlateQuarry x = withLooseWall(men);
            x.clear(1, 0, 0);
            Due.is("pence of " + men, x.told(0, 1), 20 * men);
            Due.is("THE CLUB gets none", x.count(6), 0);
            Due.is("no BLOCK", x.told(0, 5), 1);
        }
        SlateQuarry owing = Past.gangAtWall("hang 1;tool 50;club 100;", 2, 0);
        owing.work(0, 1, 0);
        Due.is("below 0", owing.told(0, 1), -100);
        owing.clear(1, 0, 0);
        Due.is("without club", owing.told(0, 1), -60);
    }

    /** Also one that has no wall, and in a month that is not let. */
    private static void byAnyGang() {
        SlateQuarry x = withLooseWall(1);
        x.gang(3);
        x.month();
        Due.is("clear", x.clear(1, 0, 1), 1);
        Due.is("pence", x.told(1, 1), 60);
        Due.is("pence of the other", x.told(0, 1), 0);
    }

    private static void noWall() {
        for (int g : Due.outside(0, 4)) {
            Refused.is("clear(" + g + ", 0, 0)", Past::open, x -> x.clear(g, 0, 0), Due.BAD);
        }
        for (int c : Due.outside(0, 5)) {
            Refused.is("clear(1, " + c + ", 0)", Past::open, x -> x.clear(1, c, 0), Due.BAD);
        }
        Refused.is("clear(0, 6, 0)", Past::open, x -> x.clear(0, 6, 0), Due.BAD);
        Refused.is("clear(2, -6, 0)", Past::open, x -> x.clear(2, -6, 0), Due.BAD);
    }

    private static void noGang() {
        for (int gang : Due.outside(0, 2)) {
            Refused.is("clear(1, 0, " + gang + ")", Past::open, x -> x.clear(1, 0, gang), Due.BAD);
        }
        for (int gang : Due.outside(0, 7)) {
            Refused.is("clear(1, 0, " + gang + ")", Past::full, x -> x.clear(1, 0, gang), Due.BAD);
        }
    }

    private static void notLoose() {
        Refused.is("the one under it", Past::open, x -> x.clear(0, 0, 0), Due.STATE);
        Refused.is("the one above it", Past::open, x -> x.clear(2, 0, 0), Due.STATE);
        Refused.is("another column", Past::open, x -> x.clear(1, 1, 0), Due.STATE);
        SlateQuarry x = withLooseWall(1);
        x.clear(1, 0, 0);
        Due.is("a cleared one", x.clear(1, 0, 0), Due.STATE);
        Due.is("pence once", x.told(0, 1), 20);
    }

    private static void badIsAheadOfState() {
        Refused.is("no gang, not LOOSE", Past::open, x -> x.clear(0, 0, 3), Due.BAD);
    }

    private static void looseAnewBehindTheNextBlock() {
        SlateQuarry x = withLooseWall(1);
        for (int i = 1; i <= 3; i++) {
            Due.is("clear", x.clear(1, 0, 0), 1);
            x.work(0, 1, 0);
            Due.is("LOOSE anew", x.face(1, 0, 2), 1);
            Due.is("pence", x.told(0, 1), 20 * i);
        }
    }
}
