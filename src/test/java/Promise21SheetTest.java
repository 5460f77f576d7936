/** Promise 21, sheet: "A SHEET is a new row of CELLS 0: 1. BAD: also n above 60; -10 - 4." */
public final class Promise21SheetTest {
    public static void main(String[] args) {
        noughtTo60Cells();
        eachLane();
        aNewRow();
        cellsAre0();
        eachSheetForItself();
        noSheet();
        noLane();
        above60();
        below0();
        badIsAheadOfSize();
        Due.end();
    }

    /** "with 0 to 60 CELLS" */
    private static void noughtTo60Cells() {
        for (int n = 0; n <= 60; n++) {
            SlateQuarry x = new SlateQuarry();
            Due.is("sheet of " + n, x.sheet(0, n % 3, n), 1);
            Due.is("the first cell", x.lay(0, 0, 1), n > 0 ? 1 : Due.INDEX);
            Due.is("the last cell", x.lay(0, n - 1, 1), n > 0 ? 1 : Due.INDEX);
            Due.is("one behind it", x.lay(0, n, 1), Due.INDEX);
        }
    }

    /** "BYTES (lane 0), SHORTS (1), LONGS (2)" */
    private static void eachLane() {
        for (int lane = 0; lane < 3; lane++) {
            SlateQuarry x = new SlateQuarry();
            x.sheet(1, lane, 3);
            for (int taken = 0; taken < 3; taken++) {
                Due.is("lane " + lane + " as of " + taken, x.haul(1, taken, 0, 0), taken == lane ? 0 : Due.CAST);
            }
        }
    }

    private static void aNewRow() {
        SlateQuarry x = new SlateQuarry();
        x.sheet(2, 2, 60);
        Due.is("a shorter row of another lane", x.sheet(2, 0, 5), 1);
        Due.is("its last cell", x.lay(2, 4, 1), 1);
        Due.is("behind it", x.lay(2, 5, 1), Due.INDEX);
        Due.is("its lane", x.haul(2, 0, 0, 0), 0);
        Due.is("the lane before", x.haul(2, 2, 0, 0), Due.CAST);
        Due.is("a row of no cells", x.sheet(2, 1, 0), 1);
        Due.is("it is not nothing", x.lay(2, 0, 1), Due.INDEX);
        Due.is("a longer row", x.sheet(2, 1, 60), 1);
        Due.is("its last cell", x.lay(2, 59, 1), 1);
    }

    /** A haul of a cell that is not 0 anew would be worked. */
    private static void cellsAre0() {
        for (int lane = 0; lane < 3; lane++) {
            SlateQuarry x = Past.gangAtWall("", 1, 0);
            x.gang(1);
            x.sheet(0, lane, 60);
            for (int i = 0; i < 20; i++) {
                Past.layBlock(x, 0, 3 * i, 1, 5, 3);
            }
            x.sheet(0, lane, 60);
            for (int i = 0; i < 20; i++) {
                Due.is("LENGTH 0", x.haul(0, lane, 3 * i, 1), -21);
                x.lay(0, 3 * i + 1, 1);
                Due.is("GANG 0 and FLAWS 0", x.haul(0, lane, 3 * i, 1), 1);
            }
            x.sheet(0, lane, 0);
            x.sheet(0, lane, 60);
            Due.is("cells behind a shorter row", x.haul(0, lane, 57, 1), -21);
        }
    }

    private static void eachSheetForItself() {
        SlateQuarry x = new SlateQuarry();
        for (int k = 0; k < 4; k++) {
            Due.is("sheet " + k, x.sheet(k, k % 3, 10 + k), 1);
            Due.is("the next is nothing", x.lay((k + 1) % 4, 0, 0), k < 3 ? Due.NULL : 1);
        }
        for (int k = 0; k < 4; k++) {
            Due.is("its last cell", x.lay(k, 9 + k, 0), 1);
            Due.is("behind it", x.lay(k, 10 + k, 0), Due.INDEX);
        }
    }

    /** "SHEETS 0 to 3" */
    private static void noSheet() {
        for (int k : Due.outside(0, 3)) {
            Refused.is("sheet(" + k + ", 0, 1)", Past::let, x -> x.sheet(k, 0, 1), Due.BAD);
        }
    }

    private static void noLane() {
        for (int lane : Due.outside(0, 2)) {
            Refused.is("sheet(0, " + lane + ", 1)", Past::let, x -> x.sheet(0, lane, 1), Due.BAD);
        }
    }

    /** What is refused keeps the row that was, or nothing. */
    private static void above60() {
        for (int n : new int[] {61, 62, 64, 256, 65536, Integer.MAX_VALUE}) {
            Refused.is("sheet(0, 2, " + n + ")", Past::let, x -> x.sheet(0, 2, n), Due.BAD);
            Refused.is("sheet(3, 0, " + n + ")", Past::let, x -> x.sheet(3, 0, n), Due.BAD);
        }
    }

    /** "4 SIZE (below 0)" */
    private static void below0() {
        for (int n : new int[] {-1, -2, -60, -256, -65536, Integer.MIN_VALUE}) {
            for (int lane = 0; lane < 3; lane++) {
                int taken = lane;
                Refused.is("sheet(0, " + lane + ", " + n + ")", Past::let, x -> x.sheet(0, taken, n), Due.SIZE);
                Refused.is("sheet(3, " + lane + ", " + n + ")", Past::let, x -> x.sheet(3, taken, n), Due.SIZE);
            }
        }
    }

    private static void badIsAheadOfSize() {
        Refused.is("no sheet", Past::let, x -> x.sheet(4, 0, -1), Due.BAD);
        Refused.is("no sheet", Past::let, x -> x.sheet(-1, 0, -1), Due.BAD);
        Refused.is("no lane", Past::let, x -> x.sheet(0, 3, -1), Due.BAD);
        Refused.is("no lane", Past::let, x -> x.sheet(0, -1, -1), Due.BAD);
    }
}
