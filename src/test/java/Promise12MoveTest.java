/**
 * Promise 12, move: "n MEN (1 to all but one) go from a GANG to another one (6 at most): they take of its ACCOUNT
 * their share (n by all its MEN, divided down) with them: how much. BAD -1000000: also too many; -1000002: one of
 * both has a WALL."
 */
public final class Promise12MoveTest {
    public static void main(String[] args) {
        oneToAllButOne();
        sixAtMost();
        noSuchNumberOfMen();
        sharesAreDividedDown();
        sharesBelow0AreDividedDown();
        everyShare();
        greatShares();
        noGang();
        notToItself();
        oneOfBothHasAWall();
        badIsAheadOfState();
        menCountFromNowOn();
        Due.end();
    }

    private static SlateQuarry gangs(int... men) {
        SlateQuarry x = new SlateQuarry();
        gangs(x, men);
        return x;
    }

    private static void gangs(SlateQuarry x, int... men) {
        for (int each : men) {
            x.gang(each);
        }
    }

    private static void oneToAllButOne() {
        for (int men = 1; men <= 6; men++) {
            for (int n = 1; n <= 7; n++) {
                SlateQuarry x = gangs(men, 1);
                boolean goes = n < men;
                Due.is(n + " of " + men, x.move(0, 1, n), goes ? 0 : Due.FAR_BAD);
                Due.is("MEN left", x.told(0, 0), goes ? men - n : men);
                Due.is("MEN there", x.told(1, 0), goes ? 1 + n : 1);
            }
        }
    }

    private static void sixAtMost() {
        for (int men = 1; men <= 6; men++) {
            for (int n = 1; n <= 5; n++) {
                SlateQuarry x = gangs(6, men);
                boolean goes = men + n <= 6;
                Due.is(n + " to " + men, x.move(0, 1, n), goes ? 0 : Due.FAR_BAD);
                Due.is("MEN left", x.told(0, 0), goes ? 6 - n : 6);
                Due.is("MEN there", x.told(1, 0), goes ? men + n : men);
            }
        }
    }

    /** Gang 1 of this past has 4 men. */
    private static void noSuchNumberOfMen() {
        for (int n : Due.outside(1, 3)) {
            Refused.is("move(1, 2, " + n + ")", Past::open, x -> x.move(1, 2, n), Due.FAR_BAD);
        }
        Refused.is("the only man", Past::open, x -> x.move(2, 0, 1), Due.FAR_BAD);
        Refused.is("none of one", Past::open, x -> x.move(2, 0, 0), Due.FAR_BAD);
        Refused.is("to 7 men", x -> gangs(x, 4, 5), x -> x.move(0, 1, 2), Due.FAR_BAD);
        Refused.is("to a full gang", x -> gangs(x, 2, 6), x -> x.move(0, 1, 1), Due.FAR_BAD);
    }

    /** Gang 0 of so many men, whose account is an ask less tool pence for each man; gang 1 of one man. */
    private static SlateQuarry withAccount(int men, int pence, int tool) {
        SlateQuarry x = Past.gangAtWall("tool " + tool + ";", men, pence);
        Due.is("gang", x.gang(1), 1);
        Due.is("work", x.work(0, 1, 0), pence);
        x.month();
        Due.is("account", x.told(0, 1), pence - men * tool);
        return x;
    }

    private static void sharesAreDividedDown() {
        SlateQuarry x = withAccount(3, 100, 0);
        Due.is("2 of 3 of 100", x.move(0, 1, 2), 66);
        Due.is("rest", x.told(0, 1), 34);
        Due.is("share", x.told(1, 1), 66);
        Due.is("1 of 3 of 66", x.move(1, 0, 1), 22);
        Due.is("rest", x.told(1, 1), 44);
        Due.is("with what it had", x.told(0, 1), 56);
        Due.is("1 of 2 of 1", withAccount(2, 1, 0).move(0, 1, 1), 0);
        Due.is("1 of 2 of 0", withAccount(2, 0, 0).move(0, 1, 1), 0);
    }

    private static void sharesBelow0AreDividedDown() {
        SlateQuarry x = withAccount(3, 1, 7);
        Due.is("2 of 3 of -20", x.move(0, 1, 2), -14);
        Due.is("rest", x.told(0, 1), -6);
        Due.is("share", x.told(1, 1), -14);
        SlateQuarry y = withAccount(2, 1, 1);
        Due.is("1 of 2 of -1", y.move(0, 1, 1), -1);
        Due.is("rest", y.told(0, 1), 0);
        Due.is("share", y.told(1, 1), -1);
        Due.is("1 of 2 of -2", withAccount(2, 0, 1).move(0, 1, 1), -1);
    }

    private static void everyShare() {
        for (int men = 2; men <= 6; men++) {
            for (int n = 1; n < men; n++) {
                for (int pence = 0; pence < 2 * men; pence++) {
                    int account = pence - men;
                    int due = (int) Math.floor((double) account * n / men);
                    Due.is(n + " of " + men + " of " + account, withAccount(men, pence, 1).move(0, 1, n), due);
                }
            }
        }
    }

    /** An account about as great as 512 calls can make it. */
    private static void greatShares() {
        SlateQuarry x = Past.gangAtWall("pound 9 300;", 6, 9999);
        x.gang(1);
        x.size(1, 200);
        x.sheet(0, 2, 60);
        for (int i = 0; i < 20; i++) {
            x.lay(0, 3 * i + 1, 40);
        }
        for (int i = 0; i < 430; i++) {
            Due.is("haul", x.haul(0, 2, 0, 20), 20);
        }
        int account = 430 * 20 * (8000 + 24000 + 9999);
        Due.is("account", x.told(0, 1), account);
        x.month();
        int share = (int) (account * 5L / 6);
        Due.is("share", x.move(0, 1, 5), share);
        Due.is("rest", x.told(0, 1), account - share);
    }

    private static void noGang() {
        for (int gang : Due.outside(0, 2)) {
            Refused.is("move(" + gang + ", 0, 1)", Past::open, x -> x.move(gang, 0, 1), Due.FAR_BAD);
            Refused.is("move(0, " + gang + ", 1)", Past::open, x -> x.move(0, gang, 1), Due.FAR_BAD);
        }
        for (int gang : Due.outside(0, 7)) {
            Refused.is("move(" + gang + ", 2, 1)", Past::full, x -> x.move(gang, 2, 1), Due.FAR_BAD);
            Refused.is("move(1, " + gang + ", 1)", Past::full, x -> x.move(1, gang, 1), Due.FAR_BAD);
        }
    }

    /** "to another one" */
    private static void notToItself() {
        for (int gang = 0; gang < 3; gang++) {
            int same = gang;
            Refused.is("move to itself", Past::open, x -> x.move(same, same, 1), Due.FAR_BAD);
        }
    }

    private static void oneOfBothHasAWall() {
        Refused.is("both", Past::let, x -> x.move(0, 1, 1), Due.FAR_STATE);
        Refused.is("from one with a wall", Past::let, x -> x.move(0, 2, 1), Due.FAR_STATE);
        Refused.is("to one with a wall", Promise12MoveTest::gang0AloneHasAWall, x -> x.move(2, 0, 1), Due.FAR_STATE);
        SlateQuarry x = new SlateQuarry();
        gang0AloneHasAWall(x);
        Due.is("neither", x.move(2, 1, 1), 0);
        x.month();
        Due.is("behind the month", x.move(2, 0, 1), 0);
    }

    private static void gang0AloneHasAWall(SlateQuarry x) {
        gangs(x, 2, 3, 4);
        x.ask(0, 0, 0, 0);
        x.ask(1, 0, 0, 1);
        Due.is("let", x.let(), 1);
    }

    private static void badIsAheadOfState() {
        Refused.is("all of one with a wall", Past::let, x -> x.move(0, 1, 2), Due.FAR_BAD);
        Refused.is("one with a wall to itself", Past::let, x -> x.move(0, 0, 1), Due.FAR_BAD);
        Refused.is("one with a wall to none", Past::let, x -> x.move(0, 3, 1), Due.FAR_BAD);
        Refused.is("none of one with a wall", Past::let, x -> x.move(0, 1, 0), Due.FAR_BAD);
    }

    private static void menCountFromNowOn() {
        SlateQuarry x = withAccount(4, 0, 5);
        Due.is("1 of 4 of -20", x.move(0, 1, 1), -5);
        x.ask(0, 0, 0, 0);
        x.let();
        x.work(0, 1, 0);
        Due.is("tool of 3 men", x.told(0, 1), -30);
    }
}
