/** Promises 16 to 20: size, most, split, work, slates. */
public final class BlocksTest {
    private static final int RUBBISH = -5;

    public static void main(String[] args) {
        size();
        badBlocks();
        most();
        split();
        splitTiesByNumber();
        rubbishBehindAllSizes();
        pay();
        tools();
        workRefused();
        slates();
        Due.end();
    }

    private static void size() {
        SlateQuarry x = new SlateQuarry();
        int[][] bad = {{0, 1}, {21, 1}, {1, 0}, {1, 201}, {-1, 1}, {1, -1}, {Integer.MIN_VALUE, 5}};
        for (int[] b : bad) {
            Due.is("size " + b[0] + " " + b[1], x.size(b[0], b[1]), SlateQuarry.BAD);
        }
        for (int i = 0; i < 8; i++) {
            Due.is("size", x.size(i % 2 == 0 ? 1 : 20, i % 2 == 0 ? 200 : 1), i);
        }
        Due.is("FULL", x.size(1, 1), SlateQuarry.FULL);
        Due.is("BAD is ahead of FULL", x.size(0, 1), SlateQuarry.BAD);
        Due.is("count(1)", x.count(1), 8);
    }

    private static void badBlocks() {
        SlateQuarry x = new SlateQuarry();
        x.gang(1);
        x.size(1, 1);
        x.ask(0, 0, 0, 0);
        x.let();
        int[] lengths = {0, -1, 41, 64, 65, Integer.MIN_VALUE, Integer.MAX_VALUE, 40, 1, 3, 3, 40};
        long[] flaws = {0, 0, 0, 0, 0, 0, 0, 1L << 40, 2, 8, -1, Long.MIN_VALUE};
        for (int i = 0; i < lengths.length; i++) {
            Due.is("most of bad " + i, x.most(lengths[i], flaws[i]), SlateQuarry.BAD);
            Due.is("split of bad " + i, x.split(lengths[i], flaws[i], 0), SlateQuarry.BAD);
            Due.is("work of bad " + i, x.work(0, lengths[i], flaws[i]), -1000000);
        }
        Due.is("nothing worked", x.count(7), 0);
        Due.is("all flawed", x.most(40, (1L << 40) - 1), 0);
        Due.is("last place flawed", x.most(40, 1L << 39), 39);
    }

    private static void most() {
        SlateQuarry x = new SlateQuarry();
        Due.is("no sizes", x.most(40, 0), 0);
        Due.is("no sizes", x.split(2, 0, 1), RUBBISH);
        x.size(4, 10);
        x.size(7, 20);
        x.size(3, 6);
        Due.is("20", x.most(20, 0), 52);
        Due.is("20 with flaws", x.most(20, 34), 46);
        Due.is("3", x.most(3, 0), 6);
        Due.is("2", x.most(2, 0), 0);
        Due.is("3 flawed", x.most(3, 4), 0);
        Due.is("7", x.most(7, 0), 20);
        Due.is("7 with its last flawed", x.most(7, 64), 12);
        Due.is("8 with its last flawed", x.most(8, 128), 20);
    }

    private static void split() {
        SlateQuarry x = new SlateQuarry();
        x.size(4, 10);
        x.size(7, 20);
        x.size(3, 6);
        pieces(x, 20, 0, 1, 1, 2, 2);
        pieces(x, 20, 34, RUBBISH, RUBBISH, 2, RUBBISH, 1, 1);
        pieces(x, 2, 0, RUBBISH, RUBBISH);
        Due.is("i -1", x.split(20, 0, -1), SlateQuarry.BAD);
        Due.is("i MIN", x.split(20, 0, Integer.MIN_VALUE), SlateQuarry.BAD);
        Due.is("i MAX", x.split(20, 0, Integer.MAX_VALUE), SlateQuarry.NONE);
        Due.is("BAD is ahead of NONE", x.split(41, 0, 41), SlateQuarry.BAD);
    }

    private static void pieces(SlateQuarry x, int length, long flaws, int... due) {
        for (int i = 0; i < due.length; i++) {
            Due.is("split(" + length + ", " + flaws + ", " + i + ")", x.split(length, flaws, i), due[i]);
        }
        Due.is("behind all", x.split(length, flaws, due.length), SlateQuarry.NONE);
    }

    private static void splitTiesByNumber() {
        SlateQuarry x = new SlateQuarry();
        x.size(1, 1);
        x.size(2, 2);
        x.size(1, 1);
        pieces(x, 4, 0, 0, 0, 0, 0);
        SlateQuarry y = new SlateQuarry();
        y.size(2, 2);
        y.size(1, 1);
        pieces(y, 5, 0, 0, 0, 1);
        pieces(y, 5, 2, 1, RUBBISH, 0, 1);
    }

    /** A slate stands as far ahead as it may, though rubbish ahead of it is worth as much. */
    private static void rubbishBehindAllSizes() {
        SlateQuarry x = new SlateQuarry();
        x.size(3, 5);
        pieces(x, 5, 0, 0, RUBBISH, RUBBISH);
        x.size(4, 5);
        pieces(x, 5, 0, 0, RUBBISH, RUBBISH);
        SlateQuarry y = new SlateQuarry();
        y.size(4, 5);
        y.size(3, 5);
        pieces(y, 5, 0, 0, RUBBISH);
        pieces(y, 5, 1, RUBBISH, 0);
    }

    private static void pay() {
        SlateQuarry x = new SlateQuarry();
        Due.laws(x, "club 7;pound 3 33;pound 6 50;", 3);
        x.gang(2);
        x.size(1, 3);
        x.ask(0, 0, 0, 11);
        x.let();
        // GOODNESS 5: 21 + 10 + 11 = 42, of which 7 of a hundred are 2
        Due.is("work", x.work(0, 7, 0), 40);
        Due.is("club", x.count(6), 2);
        x.rock(0, 0, 3);
        // 21 + 6 + 11 = 38, of which 2
        Due.is("work", x.work(0, 7, 0), 36);
        Due.is("club", x.count(6), 4);
        x.rock(0, 0, 7);
        // 21 + 0 + 11 = 32, of which 2
        Due.is("work", x.work(0, 7, 0), 30);
        Due.is("account", x.told(0, 1), 106);
        Due.laws(x, "club 100;", 1);
        Due.is("all goes to the club", x.work(0, 7, 0), 0);
        Due.is("club", x.count(6), 38);
        Due.is("STEPS", x.face(0, 0, 1), 4);
        Due.is("BLOCKS", x.told(0, 5), 4);
        Due.is("count(7)", x.count(7), 4);
        Due.laws(x, "", 0);
        Due.is("all flawed: the ask alone", x.work(0, 3, 7), 11);
    }

    private static void tools() {
        SlateQuarry x = new SlateQuarry();
        Due.laws(x, "tool 5;", 1);
        x.gang(3);
        x.gang(2);
        x.ask(0, 0, 0, 10);
        x.ask(1, 0, 1, 10);
        x.let();
        Due.is("no tool without a block", x.told(0, 1), 0);
        Due.is("work", x.work(0, 1, 0), 10);
        Due.is("tool taken", x.told(0, 1), -5);
        Due.is("work", x.work(0, 1, 0), 10);
        Due.is("tool once a month", x.told(0, 1), 5);
        Due.is("work", x.work(1, 1, 0), 10);
        Due.is("each gang's own first block", x.told(1, 1), 0);
        x.month();
        Due.is("no tool for a month without a block", x.told(0, 1), 5);
        x.ask(0, 0, 0, 10);
        x.let();
        Due.is("work", x.work(0, 1, 0), 10);
        Due.is("tool each month", x.told(0, 1), 0);
        Due.laws(x, "tool 999;", 1);
        Due.is("work", x.work(0, 1, 0), 10);
        Due.is("not behind the first block", x.told(0, 1), 10);
    }

    private static void workRefused() {
        SlateQuarry x = new SlateQuarry();
        x.gang(1);
        for (int bad : new int[] {-1, 1, 8, Integer.MIN_VALUE, Integer.MAX_VALUE}) {
            Due.is("work of none", x.work(bad, 1, 0), -1000000);
        }
        Due.is("without a wall", x.work(0, 1, 0), -1000002);
        Due.is("BAD is ahead", x.work(0, 0, 0), -1000000);
        Due.is("BAD is ahead", x.work(0, 1, 2), -1000000);
        Due.is("count(7)", x.count(7), 0);
    }

    private static void slates() {
        SlateQuarry x = new SlateQuarry();
        x.gang(1);
        x.size(4, 10);
        x.size(7, 20);
        x.size(3, 6);
        x.ask(0, 0, 0, 0);
        x.let();
        x.most(20, 0);
        x.split(20, 0, 0);
        Due.is("only what is worked", x.slates(1), 0);
        x.work(0, 20, 0);
        x.work(0, 20, 34);
        int[] due = {0, 4, 3};
        for (int i = 0; i < 3; i++) {
            Due.is("slates(" + i + ")", x.slates(i), due[i]);
        }
        Due.is("rubbish", x.count(8), 3);
        x.work(0, 5, 31);
        Due.is("rubbish", x.count(8), 8);
        for (int bad : new int[] {-1, 3, 8, Integer.MIN_VALUE, Integer.MAX_VALUE}) {
            Due.is("slates of none", x.slates(bad), SlateQuarry.BAD);
        }
    }
}
