/** What has happened to an object ahead of a test. */
final class Past {
    private Past() {
    }

    /** Nothing. */
    static void none(SlateQuarry x) {
    }

    /** Month 1, not let: laws, gangs, sizes, a loose wall, asks, three sheets, and a text on the tape. */
    static void open(SlateQuarry x) {
        Due.laws(x, "top 60;hang 3;tool 2;club 10;pound 4 20;pound 7 50;", 6);
        x.gang(2);
        x.gang(4);
        x.gang(1);
        x.size(4, 10);
        x.size(7, 20);
        x.size(3, 6);
        x.rock(0, 1, 2);
        x.ask(0, 0, 0, 30);
        x.ask(1, 0, 1, 20);
        Due.is("let", x.let(), 2);
        for (int i = 0; i < 3; i++) {
            x.work(0, 20, 34);
        }
        x.work(1, 10, 0);
        Due.is("one wall is loose", x.face(1, 0, 2), 1);
        Due.is("month", x.month(), 1);
        x.ask(0, 0, 1, 7);
        x.ask(1, 0, 1, 7);
        x.ask(1, 4, 0, 60);
        Due.is("asks", x.ask(0, 2, 2, 61), 4);
        block(x, 0, 2, 0, 9, 0);
        block(x, 1, 0, 0, 6, 0);
        block(x, 2, 1, 1, 6, 32);
        Due.tape(x, "tool 9;");
    }

    /** Month 1, let: gang 0 has wall (0, 1) for 7 pence, gang 1 wall (4, 0) for 60, gang 2 none. */
    static void let(SlateQuarry x) {
        open(x);
        Due.is("let", x.let(), 2);
    }

    /** As many gangs, sizes and bytes as there may be. */
    static void full(SlateQuarry x) {
        open(x);
        for (int i = 3; i < 8; i++) {
            Due.is("gang", x.gang(i - 2), i);
            Due.is("size", x.size(i, i), i);
        }
        Due.is("the tape's 7 bytes", x.end(0), 7);
        for (int i = 1; i <= 25; i++) {
            Due.is("feed", x.feed(Due.eight(i == 25 ? "club 3;" : "")), 8 * i);
        }
    }

    /** A let month in which gang 0, of so many men, has wall (0, 0) for an ask, under the laws of a text. */
    static SlateQuarry gangAtWall(String laws, int men, int pence) {
        SlateQuarry x = new SlateQuarry();
        Due.tape(x, laws);
        Due.holds("laws of '" + laws + "'", x.laws() >= 0);
        Due.is("gang", x.gang(men), 0);
        Due.is("ask", x.ask(0, 0, 0, pence), 1);
        Due.is("let", x.let(), 1);
        return x;
    }

    /** Gangs of one man each. */
    static SlateQuarry withGangs(int n) {
        SlateQuarry x = new SlateQuarry();
        for (int i = 0; i < n; i++) {
            Due.is("gang", x.gang(1), i);
        }
        return x;
    }

    /** A sheet of one block. */
    static void block(SlateQuarry x, int k, int lane, long gang, long length, long flaws) {
        Due.is("sheet", x.sheet(k, lane, 3), 1);
        layBlock(x, k, 0, gang, length, flaws);
    }

    static void layBlock(SlateQuarry x, int k, int at, long gang, long length, long flaws) {
        Due.is("lay", x.lay(k, at, gang), 1);
        Due.is("lay", x.lay(k, at + 1, length), 1);
        Due.is("lay", x.lay(k, at + 2, flaws), 1);
    }
}
