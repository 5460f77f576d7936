/** Promises 21 to 24: sheet, lay, haul, count. */
public final class SheetsTest {
    public static void main(String[] args) {
        sheet();
        lay();
        lanes();
        haul();
        haulRefused();
        haulStopsAtTheFirstMet();
        count();
        Due.end();
    }

    private static void sheet() {
        SlateQuarry x = new SlateQuarry();
        for (int bad : new int[] {-1, 4, Integer.MIN_VALUE, Integer.MAX_VALUE}) {
            Due.is("k", x.sheet(bad, 0, 1), SlateQuarry.BAD);
            Due.is("k is ahead of SIZE", x.sheet(bad, 0, -1), SlateQuarry.BAD);
        }
        for (int bad : new int[] {-1, 3, Integer.MIN_VALUE, Integer.MAX_VALUE}) {
            Due.is("lane", x.sheet(0, bad, 1), SlateQuarry.BAD);
            Due.is("lane is ahead of SIZE", x.sheet(0, bad, -1), SlateQuarry.BAD);
        }
        Due.is("n 61", x.sheet(0, 0, 61), SlateQuarry.BAD);
        Due.is("n MAX", x.sheet(0, 0, Integer.MAX_VALUE), SlateQuarry.BAD);
        Due.is("n -1", x.sheet(0, 0, -1), -14);
        Due.is("n MIN", x.sheet(0, 0, Integer.MIN_VALUE), -14);
        Due.is("still nothing", x.lay(0, 0, 0), -11);
        Due.is("n 60", x.sheet(0, 0, 60), 1);
        Due.is("lay at 59", x.lay(0, 59, 0), 1);
        Due.is("n -1 keeps the row", x.sheet(0, 0, -1), -14);
        Due.is("lay at 59", x.lay(0, 59, 0), 1);
        Due.is("n 0", x.sheet(0, 0, 0), 1);
        Due.is("lay at 0", x.lay(0, 0, 0), -12);
        Due.is("another one is nothing", x.lay(1, 0, 0), -11);
    }

    private static void lay() {
        SlateQuarry x = new SlateQuarry();
        Due.is("k", x.lay(4, 0, 0), SlateQuarry.BAD);
        Due.is("k", x.lay(-1, 0, 0), SlateQuarry.BAD);
        Due.is("NULL is ahead of INDEX", x.lay(3, -1, 0), -11);
        x.sheet(3, 1, 5);
        for (int bad : new int[] {-1, 5, 60, Integer.MIN_VALUE, Integer.MAX_VALUE}) {
            Due.is("INDEX", x.lay(3, bad, 0), -12);
        }
        Due.is("lay", x.lay(3, 4, Long.MIN_VALUE), 1);
    }

    private static SlateQuarry withWall() {
        SlateQuarry x = new SlateQuarry();
        x.gang(2);
        x.size(2, 5);
        x.ask(0, 0, 0, 1);
        x.let();
        return x;
    }

    private static void block(SlateQuarry x, int k, int at, long gang, long length, long flaws) {
        Due.is("lay", x.lay(k, at, gang), 1);
        Due.is("lay", x.lay(k, at + 1, length), 1);
        Due.is("lay", x.lay(k, at + 2, flaws), 1);
    }

    /** Cells keep the lowest bits of what is laid, with their sign. */
    private static void lanes() {
        SlateQuarry x = withWall();
        x.sheet(0, 0, 3);
        block(x, 0, 0, 256, 256 + 6, -256);
        Due.is("bytes", x.haul(0, 0, 0, 1), 1);
        Due.is("account", x.told(0, 1), 16);
        x.lay(0, 1, 40);
        x.lay(0, 2, 255);
        Due.is("a byte of -1", x.haul(0, 0, 0, 1), -21);
        x.lay(0, 2, 127);
        Due.is("a byte of 127", x.haul(0, 0, 0, 1), 1);
        x.sheet(0, 1, 3);
        Due.is("another lane", x.haul(0, 0, 0, 1), -13);
        block(x, 0, 0, 65536, -65536 + 10, 0x1F00FFL);
        Due.is("shorts", x.haul(0, 1, 0, 1), 1);
        Due.is("rubbish", x.count(8), 16);
        x.lay(0, 0, 256);
        Due.is("a short of 256", x.haul(0, 1, 0, 1), -21);
        x.sheet(0, 2, 3);
        block(x, 0, 0, 0, 40, 1L << 39);
        Due.is("longs", x.haul(0, 2, 0, 1), 1);
        x.lay(0, 0, 1L << 32);
        Due.is("a gang beyond an int", x.haul(0, 2, 0, 1), -21);
        x.lay(0, 0, 0);
        x.lay(0, 1, (1L << 32) + 40);
        Due.is("a length beyond an int", x.haul(0, 2, 0, 1), -21);
        x.lay(0, 1, 40);
        x.lay(0, 2, 1L << 40);
        Due.is("flaws beyond the length", x.haul(0, 2, 0, 1), -21);
        x.lay(0, 2, 1L << 32);
        Due.is("flaws beyond an int", x.haul(0, 2, 0, 1), 1);
        x.sheet(0, 2, 3);
        Due.is("a new row is of 0", x.haul(0, 2, 0, 1), -21);
    }

    private static void haul() {
        SlateQuarry x = withWall();
        x.sheet(2, 2, 60);
        for (int i = 0; i < 20; i++) {
            block(x, 2, 3 * i, 0, 4, 0);
        }
        Due.is("20", x.haul(2, 2, 0, 20), 20);
        Due.is("account", x.told(0, 1), 220);
        Due.is("slates", x.slates(0), 40);
        Due.is("STEPS", x.face(0, 0, 1), 20);
        Due.is("from 3 on", x.haul(2, 2, 3, 19), 19);
        Due.is("the last", x.haul(2, 2, 57, 1), 1);
        Due.is("0", x.haul(2, 2, 0, 0), 0);
        Due.is("0 from anywhere", x.haul(2, 2, -1, 0), 0);
        Due.is("0 from anywhere", x.haul(2, 2, 61, 0), 0);
        Due.is("count(7)", x.count(7), 40);
    }

    private static void haulRefused() {
        SlateQuarry x = withWall();
        for (int bad : new int[] {-1, 4, Integer.MIN_VALUE, Integer.MAX_VALUE}) {
            Due.is("k", x.haul(bad, 0, 0, 0), SlateQuarry.BAD);
        }
        for (int bad : new int[] {-1, 3, Integer.MIN_VALUE, Integer.MAX_VALUE}) {
            Due.is("lane", x.haul(0, bad, 0, 0), SlateQuarry.BAD);
        }
        for (int bad : new int[] {-1, 21, Integer.MIN_VALUE, Integer.MAX_VALUE}) {
            Due.is("n", x.haul(0, 0, 0, bad), SlateQuarry.BAD);
        }
        Due.is("NULL", x.haul(0, 0, 0, 1), -11);
        Due.is("NULL with n 0", x.haul(0, 0, 0, 0), -11);
        x.sheet(0, 2, 6);
        Due.is("CAST", x.haul(0, 1, 0, 1), -13);
        Due.is("CAST with n 0", x.haul(0, 0, 0, 0), -13);
        Due.is("CAST is ahead of INDEX", x.haul(0, 0, 6, 1), -13);
        for (int bad : new int[] {-1, 4, 5, 6, 60, Integer.MIN_VALUE, Integer.MAX_VALUE, -3}) {
            Due.is("INDEX from " + bad, x.haul(0, 2, bad, 1), -12);
        }
        block(x, 0, 3, 7, 0, 0);
        Due.is("INDEX is ahead of a GANG that is none", x.haul(0, 2, 4, 1), -12);
        Due.is("no GANG", x.haul(0, 2, 3, 1), -21);
        block(x, 0, 3, 0, 2, 4);
        Due.is("no FLAWS", x.haul(0, 2, 3, 1), -21);
        x.gang(1);
        block(x, 0, 3, 1, 2, 0);
        Due.is("no WALL", x.haul(0, 2, 3, 1), -22);
        block(x, 0, 3, 1, 2, 4);
        Due.is("no FLAWS is ahead of no WALL", x.haul(0, 2, 3, 1), -21);
        Due.is("count(7)", x.count(7), 0);
    }

    private static void haulStopsAtTheFirstMet() {
        SlateQuarry x = withWall();
        x.sheet(0, 2, 8);
        block(x, 0, 0, 0, 2, 0);
        block(x, 0, 3, 0, 2, 0);
        Due.is("INDEX in the third", x.haul(0, 2, 0, 3), -12);
        Due.is("two stay worked", x.count(7), 2);
        block(x, 0, 3, 1, 2, 0);
        Due.is("no GANG in the second", x.haul(0, 2, 0, 3), -21);
        Due.is("one stays worked", x.count(7), 3);
        Due.laws(x, "hang 4;", 1);
        block(x, 0, 3, 0, 2, 0);
        Due.is("LOOSE behind the first", x.haul(0, 2, 0, 2), -22);
        Due.is("one stays worked", x.count(7), 4);
        Due.is("LOOSE", x.face(1, 0, 2), 1);
        Due.is("account", x.told(0, 1), 24);
    }

    private static void count() {
        SlateQuarry x = withWall();
        Due.laws(x, "hang 1;club 50;", 2);
        x.size(3, 1);
        Due.is("work", x.work(0, 3, 2), 1);
        int[] due = {1, 2, 0, 1, 1, 1, 0, 1, 3, 2};
        for (int what = 0; what < due.length; what++) {
            Due.is("count(" + what + ")", x.count(what), due[what]);
        }
        x.clear(1, 0, 0);
        Due.is("work", x.work(0, 5, 0), 6);
        Due.is("club", x.count(6), 5);
        Due.is("rubbish that has no flaw", x.count(8), 4);
        for (int bad : new int[] {-1, 10, Integer.MIN_VALUE, Integer.MAX_VALUE}) {
            Due.is("count(" + bad + ")", x.count(bad), SlateQuarry.BAD);
        }
    }
}
