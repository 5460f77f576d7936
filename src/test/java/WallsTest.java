/** Promises 7 to 12: rock, face, clear, gang, told, move. */
public final class WallsTest {
    private static final int[] NO_GALLERIES = {-1, 5, Integer.MIN_VALUE, Integer.MAX_VALUE};
    private static final int[] NO_COLUMNS = {-1, 6, Integer.MIN_VALUE, Integer.MAX_VALUE};

    public static void main(String[] args) {
        rock();
        badWalls();
        face();
        hang();
        hangOfTheWorkedWallAlone();
        clear();
        gang();
        told();
        move();
        sharesAreDividedDown();
        greatShares();
        Due.end();
    }

    private static void rock() {
        SlateQuarry x = new SlateQuarry();
        Due.is("rock", x.rock(2, 3, 0), 5);
        Due.is("rock", x.rock(2, 3, 9), 0);
        Due.is("rock", x.rock(2, 3, -1), SlateQuarry.BAD);
        Due.is("rock", x.rock(2, 3, 10), SlateQuarry.BAD);
        Due.is("face", x.face(2, 3, 0), 9);
        Due.is("another wall", x.face(3, 2, 0), 5);
        Due.is("another wall", x.face(2, 4, 0), 5);
    }

    private static void badWalls() {
        SlateQuarry x = new SlateQuarry();
        x.gang(1);
        for (int g : NO_GALLERIES) {
            Due.is("rock", x.rock(g, 0, 1), SlateQuarry.BAD);
            Due.is("face", x.face(g, 0, 0), SlateQuarry.BAD);
            Due.is("clear", x.clear(g, 0, 0), SlateQuarry.BAD);
            Due.is("ask", x.ask(0, g, 0, 0), SlateQuarry.BAD);
        }
        for (int c : NO_COLUMNS) {
            Due.is("rock", x.rock(2, c, 1), SlateQuarry.BAD);
            Due.is("face", x.face(2, c, 0), SlateQuarry.BAD);
            Due.is("clear", x.clear(2, c, 0), SlateQuarry.BAD);
            Due.is("ask", x.ask(0, 2, c, 0), SlateQuarry.BAD);
        }
        Due.is("face what", x.face(0, 0, 5), SlateQuarry.BAD);
        Due.is("face what", x.face(0, 0, -1), SlateQuarry.BAD);
    }

    private static void face() {
        SlateQuarry x = new SlateQuarry();
        x.gang(1);
        x.gang(1);
        x.ask(1, 3, 2, 4);
        Due.is("asked is not held", x.face(3, 2, 4), SlateQuarry.NONE);
        x.let();
        Due.is("holder", x.face(3, 2, 4), 1);
        x.work(1, 1, 0);
        x.work(1, 1, 0);
        Due.is("STEPS", x.face(3, 2, 1), 2);
        Due.is("no hang: not LOOSE", x.face(4, 2, 2), 0);
        x.month();
        Due.is("holder", x.face(3, 2, 4), SlateQuarry.NONE);
        Due.is("STEPS stay", x.face(3, 2, 1), 2);
    }

    private static void hang() {
        SlateQuarry x = new SlateQuarry();
        Due.laws(x, "hang 3;", 1);
        x.gang(1);
        x.gang(2);
        x.ask(0, 2, 1, 0);
        x.ask(1, 3, 1, 0);
        x.let();
        x.work(1, 1, 0);
        for (int i = 0; i < 3; i++) {
            Due.is("work", x.work(0, 1, 0), 0);
        }
        Due.is("3 to 1: not LOOSE", x.face(3, 1, 2), 0);
        Due.is("work", x.work(0, 1, 0), 0);
        Due.is("4 to 1: LOOSE", x.face(3, 1, 2), 1);
        Due.is("count(5)", x.count(5), 1);
        int[] workable = {0, 0, 0, 0, 1};
        for (int g = 0; g < 5; g++) {
            Due.is("workable " + g, x.face(g, 1, 3), workable[g]);
            Due.is("another column " + g, x.face(g, 2, 3), 1);
        }
        Due.is("under a LOOSE one", x.work(0, 1, 0), -1000002);
        Due.is("the LOOSE one", x.work(1, 1, 0), -1000002);
        Due.is("STEPS of a refused block", x.face(2, 1, 1), 4);
        x.month();
        Due.is("LOOSE behind the month", x.face(3, 1, 2), 1);
        Due.is("clear", x.clear(3, 1, 1), 1);
        Due.is("workable", x.face(0, 1, 3), 1);
        Due.is("count(5)", x.count(5), 0);

        for (int c = 0; c < 6; c++) {
            SlateQuarry top = new SlateQuarry();
            Due.laws(top, "hang 1;", 1);
            top.gang(1);
            top.ask(0, 4, c, 0);
            top.let();
            Due.is("work", top.work(0, 1, 0), 0);
            Due.is("work", top.work(0, 1, 0), 0);
            Due.is("none above the highest", top.count(5), 0);
        }
    }

    private static void hangOfTheWorkedWallAlone() {
        SlateQuarry x = new SlateQuarry();
        x.gang(1);
        x.gang(1);
        x.ask(0, 0, 0, 0);
        x.ask(1, 0, 1, 0);
        x.let();
        for (int i = 0; i < 5; i++) {
            x.work(0, 1, 0);
        }
        Due.laws(x, "hang 2;", 1);
        Due.is("laws loosen nothing", x.count(5), 0);
        x.work(1, 1, 0);
        Due.is("a block of another wall loosens nothing", x.count(5), 0);
        x.work(0, 1, 0);
        Due.is("more than hang", x.face(1, 0, 2), 1);
        x.clear(1, 0, 1);
        x.work(0, 1, 0);
        Due.is("LOOSE anew", x.face(1, 0, 2), 1);
        Due.laws(x, "", 0);
        Due.is("LOOSE without hang", x.face(1, 0, 2), 1);
    }

    private static void clear() {
        SlateQuarry x = new SlateQuarry();
        Due.laws(x, "hang 1;", 1);
        x.gang(1);
        x.gang(6);
        Due.is("not LOOSE", x.clear(1, 0, 1), SlateQuarry.STATE);
        x.ask(0, 0, 0, 0);
        x.let();
        x.work(0, 1, 0);
        Due.is("no GANG", x.clear(1, 0, 2), SlateQuarry.BAD);
        Due.is("no GANG", x.clear(1, 0, -1), SlateQuarry.BAD);
        Due.is("no GANG comes ahead of STATE", x.clear(0, 0, 2), SlateQuarry.BAD);
        Due.is("the wall below", x.clear(0, 0, 1), SlateQuarry.STATE);
        Due.is("clear", x.clear(1, 0, 1), 1);
        Due.is("pence", x.told(1, 1), 120);
        Due.is("again", x.clear(1, 0, 1), SlateQuarry.STATE);
        Due.is("pence", x.told(1, 1), 120);
        x.work(0, 1, 0);
        Due.is("clear by the gang below", x.clear(1, 0, 0), 1);
        Due.is("pence", x.told(0, 1), 20);
    }

    private static void gang() {
        SlateQuarry x = new SlateQuarry();
        Due.is("gang(0)", x.gang(0), SlateQuarry.BAD);
        Due.is("gang(7)", x.gang(7), SlateQuarry.BAD);
        for (int i = 0; i < 8; i++) {
            Due.is("gang", x.gang(i % 6 + 1), i);
        }
        Due.is("FULL", x.gang(1), SlateQuarry.FULL);
        Due.is("BAD comes ahead of FULL", x.gang(7), SlateQuarry.BAD);
        Due.is("count(0)", x.count(0), 8);
        Due.is("MEN", x.told(5, 0), 6);
        Due.is("MEN", x.told(7, 0), 2);
    }

    private static void told() {
        SlateQuarry x = new SlateQuarry();
        x.gang(3);
        int[] fresh = {3, 0, 0, SlateQuarry.NONE, 0, 0};
        for (int what = 0; what < 6; what++) {
            Due.is("told fresh " + what, x.told(0, what), fresh[what]);
        }
        x.size(1, 10);
        x.ask(0, 4, 5, 7);
        x.let();
        x.work(0, 1, 0);
        x.work(0, 2, 0);
        int[] due = {3, 44, 1, 29, 7, 2};
        for (int what = 0; what < 6; what++) {
            Due.is("told " + what, x.told(0, what), due[what]);
        }
        x.month();
        int[] later = {3, 44, 1, SlateQuarry.NONE, 0, 2};
        for (int what = 0; what < 6; what++) {
            Due.is("told later " + what, x.told(0, what), later[what]);
        }
        for (int bad : new int[] {-1, 1, 8, Integer.MIN_VALUE, Integer.MAX_VALUE}) {
            Due.is("told of none", x.told(bad, 0), -1000000);
        }
        Due.is("told what", x.told(0, 6), -1000000);
        Due.is("told what", x.told(0, -1), -1000000);
    }

    private static void move() {
        SlateQuarry x = new SlateQuarry();
        x.gang(6);
        x.gang(2);
        x.gang(1);
        for (int bad : new int[] {-1, 3, 8, Integer.MAX_VALUE, Integer.MIN_VALUE}) {
            Due.is("from none", x.move(bad, 0, 1), -1000000);
            Due.is("to none", x.move(0, bad, 1), -1000000);
        }
        Due.is("to itself", x.move(1, 1, 1), -1000000);
        Due.is("n 0", x.move(0, 1, 0), -1000000);
        Due.is("n -1", x.move(0, 1, -1), -1000000);
        Due.is("n MIN", x.move(0, 1, Integer.MIN_VALUE), -1000000);
        Due.is("n MAX", x.move(0, 1, Integer.MAX_VALUE), -1000000);
        Due.is("all", x.move(1, 2, 2), -1000000);
        Due.is("the only one", x.move(2, 1, 1), -1000000);
        Due.is("to 7 men", x.move(0, 1, 5), -1000000);
        Due.is("to a full one", x.move(1, 0, 1), -1000000);
        Due.is("to 6 men", x.move(0, 2, 5), 0);
        Due.is("MEN", x.told(0, 0), 1);
        Due.is("MEN", x.told(2, 0), 6);
        x.ask(1, 0, 0, 0);
        x.let();
        Due.is("to one with a wall", x.move(2, 1, 1), -1000002);
        Due.is("from one with a wall", x.move(1, 0, 1), -1000002);
        Due.is("BAD is ahead", x.move(1, 0, 2), -1000000);
        Due.is("others", x.move(2, 0, 1), 0);
        x.month();
        Due.is("behind the month", x.move(1, 0, 1), 0);
    }

    private static void sharesAreDividedDown() {
        SlateQuarry x = new SlateQuarry();
        x.gang(3);
        x.gang(1);
        x.ask(0, 0, 0, 100);
        x.let();
        x.work(0, 1, 0);
        x.month();
        Due.is("2 of 3 of 100", x.move(0, 1, 2), 66);
        Due.is("rest", x.told(0, 1), 34);
        Due.is("share", x.told(1, 1), 66);
        Due.is("1 of 3 of 66", x.move(1, 0, 1), 22);

        SlateQuarry owing = new SlateQuarry();
        Due.laws(owing, "tool 7;", 1);
        owing.gang(3);
        owing.gang(1);
        owing.ask(0, 0, 0, 1);
        owing.let();
        Due.is("work", owing.work(0, 1, 0), 1);
        Due.is("below 0", owing.told(0, 1), -20);
        owing.month();
        Due.is("2 of 3 of -20", owing.move(0, 1, 2), -14);
        Due.is("rest", owing.told(0, 1), -6);
        Due.is("share", owing.told(1, 1), -14);
    }

    /** An account about as great as 512 calls can make it. */
    private static void greatShares() {
        SlateQuarry x = new SlateQuarry();
        Due.laws(x, "pound 9 300;", 1);
        x.gang(6);
        x.gang(1);
        x.size(1, 200);
        x.ask(0, 0, 0, 9999);
        x.let();
        x.sheet(0, 2, 60);
        for (int i = 0; i < 20; i++) {
            x.lay(0, 3 * i + 1, 40);
        }
        for (int i = 0; i < 430; i++) {
            Due.is("haul", x.haul(0, 2, 0, 20), 20);
        }
        int account = 430 * 20 * (8000 + 24000 + 9999);
        Due.is("account", x.told(0, 1), account);
        x.month();
        int share = (int) (account * 5L / 6);
        Due.is("share", x.move(0, 1, 5), share);
        Due.is("rest", x.told(0, 1), account - share);
    }
}
