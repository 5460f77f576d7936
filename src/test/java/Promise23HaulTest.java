/**
 * Promise 23, haul: "n (0 to 20) BLOCKS of a SHEET taken as of a lane: of each GANG, LENGTH, FLAWS, from CELL f on,
 * are WORKED one by one: how many. BAD: k, lane, n; -10 less the FAULT: NULL, CAST, INDEX; -21: a GANG, LENGTH,
 * FLAWS that are none; -22: it has no WALL, or that may not be worked; the first met: those ahead of it stay worked."
 */
public final class Promise23HaulTest {
    private static final int NO_BLOCK = -21, NOT_WORKED = -22;

    public static void main(String[] args) {
        noneToTwenty();
        fromCellFOn();
        paysAsWorkDoes();
        ofSeveralGangs();
        noSheet();
        noLane();
        noSuchNumber();
        badIsAheadOfFaults();
        nothing();
        cast();
        index();
        indexWithNoBlocks();
        gangsThatAreNone();
        lengthsThatAreNone();
        flawsThatAreNone();
        noWall();
        mayNotBeWorked();
        theFirstMetOfOneBlock();
        thoseAheadOfItStayWorked();
        looseBehindABlockOfTheHaul();
        Due.end();
    }

    /** Gang 0 with a wall for 1 pence, slates of length 2 at 5. */
    private static SlateQuarry withWall() {
        SlateQuarry x = Past.gangAtWall("", 2, 1);
        x.size(2, 5);
        return x;
    }

    private static void fill(SlateQuarry x, int k, int lane, int cells) {
        x.sheet(k, lane, cells);
        for (int at = 0; at + 3 <= cells; at += 3) {
            Past.layBlock(x, k, at, 0, 4, 0);
        }
    }

    private static void noneToTwenty() {
        for (int lane = 0; lane < 3; lane++) {
            for (int n = 0; n <= 20; n++) {
                SlateQuarry x = withWall();
                fill(x, 3, lane, 60);
                Due.is("haul of " + n, x.haul(3, lane, 0, n), n);
                Due.is("BLOCKS", x.count(7), n);
                Due.is("ACCOUNT", x.told(0, 1), 11 * n);
                Due.is("slates", x.slates(0), 2 * n);
                Due.is("STEPS", x.face(0, 0, 1), n);
            }
        }
    }

    private static void fromCellFOn() {
        SlateQuarry x = withWall();
        fill(x, 2, 2, 60);
        Due.is("from 3 on", x.haul(2, 2, 3, 19), 19);
        Due.is("the last", x.haul(2, 2, 57, 1), 1);
        x.sheet(2, 2, 5);
        Past.layBlock(x, 2, 2, 0, 6, 0);
        Due.is("from 2 on", x.haul(2, 2, 2, 1), 1);
        Due.is("slates", x.slates(0), 43);
        Due.is("from 1 on: FLAWS 6 beyond LENGTH 0", x.haul(2, 2, 1, 1), NO_BLOCK);
    }

    private static void paysAsWorkDoes() {
        SlateQuarry hauled = Past.gangAtWall("tool 3;club 7;pound 6 33;", 4, 13);
        SlateQuarry worked = Past.gangAtWall("tool 3;club 7;pound 6 33;", 4, 13);
        for (SlateQuarry x : new SlateQuarry[] {hauled, worked}) {
            x.size(4, 10);
            x.size(3, 6);
        }
        hauled.sheet(0, 1, 6);
        Past.layBlock(hauled, 0, 0, 0, 17, 4);
        Past.layBlock(hauled, 0, 3, 0, 40, 3);
        Due.is("haul", hauled.haul(0, 1, 0, 2), 2);
        worked.work(0, 17, 4);
        worked.work(0, 40, 3);
        for (int what = 0; what <= 5; what++) {
            Due.is("told(0, " + what + ")", hauled.told(0, what), worked.told(0, what));
        }
        for (int what = 0; what <= 9; what++) {
            Due.is("count(" + what + ")", hauled.count(what), worked.count(what));
        }
        Due.is("slates(0)", hauled.slates(0), worked.slates(0));
        Due.is("slates(1)", hauled.slates(1), worked.slates(1));
        Due.holds("tool was taken once", hauled.told(0, 1) == 0 - 12 + paid(17, 4) + paid(40, 3));
    }

    private static int paid(int length, long flaws) {
        SlateQuarry x = Past.gangAtWall("tool 3;club 7;pound 6 33;", 4, 13);
        x.size(4, 10);
        x.size(3, 6);
        return x.work(0, length, flaws);
    }

    private static void ofSeveralGangs() {
        SlateQuarry x = Past.withGangs(8);
        x.sheet(0, 0, 24);
        for (int gang = 0; gang < 8; gang++) {
            x.ask(gang, 4, gang % 6, gang);
            x.ask(gang, 3, gang % 6, gang);
            Past.layBlock(x, 0, 3 * gang, gang, 1, 0);
        }
        Due.is("let", x.let(), 8);
        Due.is("haul", x.haul(0, 0, 0, 8), 8);
        for (int gang = 0; gang < 8; gang++) {
            Due.is("ACCOUNT of " + gang, x.told(gang, 1), gang);
            Due.is("BLOCKS of " + gang, x.told(gang, 5), 1);
        }
    }

    private static void noSheet() {
        for (int k : Due.outside(0, 3)) {
            Refused.is("haul(" + k + ", 2, 0, 1)", Past::let, x -> x.haul(k, 2, 0, 1), Due.BAD);
            Refused.is("haul(" + k + ", 2, 0, 0)", Past::let, x -> x.haul(k, 2, 0, 0), Due.BAD);
        }
    }

    private static void noLane() {
        for (int lane : Due.outside(0, 2)) {
            Refused.is("haul(0, " + lane + ", 0, 1)", Past::let, x -> x.haul(0, lane, 0, 1), Due.BAD);
            Refused.is("haul(0, " + lane + ", 0, 0)", Past::let, x -> x.haul(0, lane, 0, 0), Due.BAD);
        }
    }

    private static void noSuchNumber() {
        for (int n : Due.outside(0, 20)) {
            Refused.is("haul(0, 2, 0, " + n + ")", Past::let, x -> x.haul(0, 2, 0, n), Due.BAD);
        }
    }

    private static void badIsAheadOfFaults() {
        Refused.is("lane 3 of nothing", Past::let, x -> x.haul(3, 3, 0, 1), Due.BAD);
        Refused.is("21 of nothing", Past::let, x -> x.haul(3, 0, 0, 21), Due.BAD);
        Refused.is("-1 of another lane", Past::let, x -> x.haul(0, 1, 0, -1), Due.BAD);
        Refused.is("21 from beyond", Past::let, x -> x.haul(0, 2, 60, 21), Due.BAD);
    }

    private static void nothing() {
        for (int lane = 0; lane < 3; lane++) {
            int taken = lane;
            Refused.is("NULL", Past::let, x -> x.haul(3, taken, 0, 1), Due.NULL);
            Refused.is("NULL of no blocks", Past::let, x -> x.haul(3, taken, 0, 0), Due.NULL);
            Refused.is("NULL is ahead of INDEX", Past::let, x -> x.haul(3, taken, -1, 1), Due.NULL);
        }
    }

    /** "3 CAST (another lane)": sheets 0, 1 and 2 of this past are of lanes 2, 0 and 1. */
    private static void cast() {
        for (int k = 0; k < 3; k++) {
            for (int lane = 0; lane < 3; lane++) {
                int sheet = k;
                int taken = lane;
                if (lane != (k + 2) % 3) {
                    Refused.is("CAST", Past::let, x -> x.haul(sheet, taken, 0, 1), Due.CAST);
                    Refused.is("CAST of no blocks", Past::let, x -> x.haul(sheet, taken, 0, 0), Due.CAST);
                    Refused.is("CAST is ahead of INDEX", Past::let, x -> x.haul(sheet, taken, 3, 1), Due.CAST);
                }
            }
        }
        SlateQuarry x = withWall();
        x.sheet(0, 1, 0);
        Due.is("CAST of a row of no cells", x.haul(0, 0, 0, 0), Due.CAST);
    }

    private static void index() {
        for (int f : new int[] {-1, -2, -3, 1, 2, 3, 60, -256, 256, 65536, Integer.MIN_VALUE, Integer.MIN_VALUE + 1,
            Integer.MAX_VALUE, Integer.MAX_VALUE - 1, Integer.MAX_VALUE - 2, Integer.MAX_VALUE - 59}) {
            for (int n : new int[] {1, 2, 20}) {
                Refused.is("haul(0, 2, " + f + ", " + n + ")", Past::let, x -> x.haul(0, 2, f, n), Due.INDEX);
            }
        }
        for (int cells = 0; cells < 3; cells++) {
            SlateQuarry x = withWall();
            x.sheet(0, 0, cells);
            Due.is("a block of " + cells + " cells", x.haul(0, 0, 0, 1), Due.INDEX);
        }
        SlateQuarry x = withWall();
        fill(x, 0, 0, 60);
        Due.is("the 20th is beyond", x.haul(0, 0, 3, 20), Due.INDEX);
        Due.is("those ahead of it", x.count(7), 19);
        Due.is("one cell is beyond", x.haul(0, 0, 58, 1), Due.INDEX);
        Due.is("two cells are beyond", x.haul(0, 0, 59, 1), Due.INDEX);
    }

    /** Where no block is taken, no cell is. */
    private static void indexWithNoBlocks() {
        for (int f : new int[] {-1, 3, 60, Integer.MIN_VALUE, Integer.MAX_VALUE}) {
            Refused.is("haul(0, 2, " + f + ", 0)", Past::let, x -> x.haul(0, 2, f, 0), 0);
        }
        SlateQuarry x = withWall();
        x.sheet(0, 0, 0);
        Due.is("a row of no cells", x.haul(0, 0, 0, 0), 0);
    }

    private static void refusedBlock(String what, int lane, long gang, long length, long flaws, int due) {
        Refused.is(what, x -> {
            Past.let(x);
            Past.block(x, 0, lane, gang, length, flaws);
        }, x -> x.haul(0, lane, 0, 1), due);
    }

    private static void gangsThatAreNone() {
        for (int lane = 0; lane < 3; lane++) {
            for (long gang : new long[] {3, 7, 8, 127, -1, -128}) {
                refusedBlock("GANG " + gang, lane, gang, 4, 0, NO_BLOCK);
            }
        }
        for (long gang : new long[] {256, 32767, -256, -32768}) {
            refusedBlock("GANG " + gang, 1, gang, 4, 0, NO_BLOCK);
            refusedBlock("GANG " + gang, 2, gang, 4, 0, NO_BLOCK);
        }
        for (long gang : new long[] {65536, 1L << 32, -1L << 32, 1L << 40, Long.MIN_VALUE, Long.MAX_VALUE}) {
            refusedBlock("GANG " + gang, 2, gang, 4, 0, NO_BLOCK);
        }
    }

    private static void lengthsThatAreNone() {
        for (int lane = 0; lane < 3; lane++) {
            for (long length : new long[] {0, 41, 64, 65, 127, -1, -24, -128}) {
                refusedBlock("LENGTH " + length, lane, 0, length, 0, NO_BLOCK);
            }
        }
        for (long length : new long[] {256 + 4, 32767, -256 + 4}) {
            refusedBlock("LENGTH " + length, 1, 0, length, 0, NO_BLOCK);
        }
        for (long length : new long[] {65536 + 4, (1L << 32) + 4, (1L << 40) + 6, Long.MIN_VALUE + 4,
            Long.MAX_VALUE}) {
            refusedBlock("LENGTH " + length, 2, 0, length, 0, NO_BLOCK);
        }
        SlateQuarry x = withWall();
        Past.block(x, 0, 0, 0, 1, 0);
        Due.is("LENGTH 1", x.haul(0, 0, 0, 1), 1);
        x.lay(0, 1, 40);
        Due.is("LENGTH 40", x.haul(0, 0, 0, 1), 1);
    }

    private static void flawsThatAreNone() {
        for (int lane = 0; lane < 3; lane++) {
            for (long flaws : new long[] {16, 17, 64, -1, -128, -16}) {
                refusedBlock("FLAWS " + flaws, lane, 0, 4, flaws, NO_BLOCK);
            }
        }
        for (long flaws : new long[] {1L << 40, 1L << 63, 1L << 62, -1L << 32}) {
            refusedBlock("FLAWS " + flaws, 2, 0, 40, flaws, NO_BLOCK);
        }
        SlateQuarry x = withWall();
        Past.block(x, 0, 2, 0, 40, (1L << 40) - 1);
        Due.is("all 40 flawed", x.haul(0, 2, 0, 1), 1);
        x.lay(0, 2, 1L << 32);
        Due.is("FLAWS beyond an int", x.haul(0, 2, 0, 1), 1);
        Due.is("rubbish", x.count(8), 40 + 2);
    }

    private static void noWall() {
        for (int lane = 0; lane < 3; lane++) {
            refusedBlock("GANG 2 has none", lane, 2, 4, 0, NOT_WORKED);
        }
        Refused.is("a month that is not let", Past::open, x -> x.haul(0, 2, 0, 1), NOT_WORKED);
    }

    private static void mayNotBeWorked() {
        Refused.is("under a LOOSE one", Promise23HaulTest::underALooseWall, x -> x.haul(0, 0, 0, 1), NOT_WORKED);
        Refused.is("a LOOSE one", Promise23HaulTest::underALooseWall, x -> x.haul(0, 0, 3, 1), NOT_WORKED);
    }

    private static void underALooseWall(SlateQuarry x) {
        Due.laws(x, "hang 1;", 1);
        x.gang(1);
        x.gang(1);
        x.ask(0, 0, 0, 0);
        x.ask(1, 1, 0, 0);
        Due.is("let", x.let(), 2);
        x.work(0, 1, 0);
        x.sheet(0, 0, 6);
        Past.layBlock(x, 0, 0, 0, 1, 0);
        Past.layBlock(x, 0, 3, 1, 1, 0);
    }

    /** Cells are taken ahead of what they tell, and a BLOCK is looked at ahead of its WALL. */
    private static void theFirstMetOfOneBlock() {
        refusedBlock("no LENGTH, no WALL", 2, 2, 0, 0, NO_BLOCK);
        refusedBlock("no FLAWS, no WALL", 2, 2, 4, 16, NO_BLOCK);
        SlateQuarry x = withWall();
        x.sheet(0, 2, 2);
        Past.block(x, 1, 2, 9, 9, 9);
        Due.is("INDEX of its FLAWS, LENGTH 0", x.haul(0, 2, 0, 1), Due.INDEX);
        x.lay(0, 0, 9);
        Due.is("INDEX of its FLAWS, GANG 9", x.haul(0, 2, 0, 1), Due.INDEX);
        Due.is("INDEX of its LENGTH, GANG 9", x.haul(1, 2, 2, 1), Due.INDEX);
    }

    private static void thoseAheadOfItStayWorked() {
        long[][] bad = {{9, 4, 0}, {0, 0, 0}, {0, 4, 16}, {1, 4, 0}};
        int[] due = {NO_BLOCK, NO_BLOCK, NO_BLOCK, NOT_WORKED};
        for (int at = 0; at < 6; at++) {
            for (int i = 0; i < bad.length; i++) {
                SlateQuarry x = withWall();
                x.gang(1);
                fill(x, 0, 2, 20);
                Past.layBlock(x, 0, 3 * at, bad[i][0], bad[i][1], bad[i][2]);
                Due.is("the first met", x.haul(0, 2, 0, 7), due[i]);
                Due.is("BLOCKS", x.count(7), at);
                Due.is("ACCOUNT", x.told(0, 1), 11 * at);
                Due.is("STEPS", x.face(0, 0, 1), at);
            }
        }
        SlateQuarry x = withWall();
        fill(x, 0, 2, 20);
        Due.is("INDEX in the 7th", x.haul(0, 2, 0, 7), Due.INDEX);
        Due.is("BLOCKS", x.count(7), 6);
    }

    private static void looseBehindABlockOfTheHaul() {
        SlateQuarry x = Past.gangAtWall("hang 3;", 1, 1);
        fill(x, 0, 2, 12);
        Due.is("the third makes it LOOSE", x.haul(0, 2, 0, 4), NOT_WORKED);
        Due.is("three stay worked", x.count(7), 3);
        Due.is("LOOSE", x.face(1, 0, 2), 1);
        SlateQuarry y = Past.gangAtWall("hang 3;", 1, 1);
        fill(y, 0, 2, 12);
        Due.is("LOOSE behind the last", y.haul(0, 2, 0, 3), 3);
        Due.is("LOOSE", y.face(1, 0, 2), 1);
    }
}
