/**
 * Promise 22, lay: "CELL i of a SHEET becomes v (its lowest bits): 1. BAD: k; -10 less the FAULT: NULL, INDEX."
 *
 * What a cell has is seen by a haul alone: of GANG, LENGTH and FLAWS that are none it answers -21.
 */
public final class Promise22LayTest {
    public static void main(String[] args) {
        becomesV();
        theLowestBitsOfAByte();
        theLowestBitsOfAShort();
        allBitsOfALong();
        everyLongMayBeLaid();
        eachCellForItself();
        aLaterOneTakesItsPlace();
        noSheet();
        nothing();
        noCell();
        nullIsAheadOfIndex();
        Due.end();
    }

    /** Gang 0 with a wall, slates of length 1 at 1, and a sheet 0 of one block of LENGTH 40. */
    private static SlateQuarry withSheet(int lane) {
        SlateQuarry x = Past.gangAtWall("", 1, 0);
        x.size(1, 1);
        Past.block(x, 0, lane, 0, 40, 0);
        return x;
    }

    private static void becomesV() {
        for (int lane = 0; lane < 3; lane++) {
            SlateQuarry x = withSheet(lane);
            Due.is("haul", x.haul(0, lane, 0, 1), 1);
            Due.is("40 slates", x.slates(0), 40);
            Due.is("lay", x.lay(0, 1, 7), 1);
            Due.is("haul", x.haul(0, lane, 0, 1), 1);
            Due.is("7 more", x.slates(0), 47);
            Due.is("lay", x.lay(0, 2, 3), 1);
            Due.is("haul", x.haul(0, lane, 0, 1), 1);
            Due.is("5 more", x.slates(0), 52);
        }
    }

    /** What is worked of a block of these flaws in this lane: how many slates; -21. */
    private static int sound(int lane, long flaws) {
        SlateQuarry x = withSheet(lane);
        Due.is("lay", x.lay(0, 2, flaws), 1);
        int came = x.haul(0, lane, 0, 1);
        return came == 1 ? x.slates(0) : came;
    }

    /** A byte is of 8 bits, of which the highest is its sign: FLAWS below 0 are beyond every LENGTH. */
    private static void theLowestBitsOfAByte() {
        Due.is("127", sound(0, 127), 33);
        Due.is("128", sound(0, 128), -21);
        Due.is("255", sound(0, 255), -21);
        Due.is("256", sound(0, 256), 40);
        Due.is("257", sound(0, 257), 39);
        Due.is("-1", sound(0, -1), -21);
        Due.is("-128", sound(0, -128), -21);
        Due.is("-129", sound(0, -129), 33);
        Due.is("-256", sound(0, -256), 40);
        Due.is("MIN", sound(0, Long.MIN_VALUE), 40);
        Due.is("MAX", sound(0, Long.MAX_VALUE), -21);
        Due.is("1 << 32 and 1", sound(0, (1L << 32) + 1), 39);
    }

    private static void theLowestBitsOfAShort() {
        Due.is("128", sound(1, 128), 39);
        Due.is("255", sound(1, 255), 32);
        Due.is("32767", sound(1, 32767), 25);
        Due.is("32768", sound(1, 32768), -21);
        Due.is("65535", sound(1, 65535), -21);
        Due.is("65536", sound(1, 65536), 40);
        Due.is("65537", sound(1, 65537), 39);
        Due.is("-1", sound(1, -1), -21);
        Due.is("-32768", sound(1, -32768), -21);
        Due.is("-32769", sound(1, -32769), 25);
        Due.is("-65536", sound(1, -65536), 40);
        Due.is("MIN", sound(1, Long.MIN_VALUE), 40);
        Due.is("MAX", sound(1, Long.MAX_VALUE), -21);
    }

    private static void allBitsOfALong() {
        Due.is("65536", sound(2, 65536), 39);
        Due.is("1 << 31", sound(2, 1L << 31), 39);
        Due.is("1 << 32", sound(2, 1L << 32), 39);
        Due.is("1 << 39", sound(2, 1L << 39), 39);
        Due.is("1 << 40", sound(2, 1L << 40), -21);
        Due.is("all 40", sound(2, (1L << 40) - 1), 0);
        Due.is("-1", sound(2, -1), -21);
        Due.is("MIN", sound(2, Long.MIN_VALUE), -21);
        Due.is("MAX", sound(2, Long.MAX_VALUE), -21);
    }

    private static void everyLongMayBeLaid() {
        SlateQuarry x = new SlateQuarry();
        for (int lane = 0; lane < 3; lane++) {
            x.sheet(0, lane, 1);
            for (long v : new long[] {0, -1, Long.MIN_VALUE, Long.MAX_VALUE, 1L << 32, -129, 65536}) {
                Due.is("lay of " + v, x.lay(0, 0, v), 1);
            }
        }
    }

    private static void eachCellForItself() {
        SlateQuarry x = Past.gangAtWall("", 1, 0);
        x.size(1, 1);
        x.sheet(0, 0, 60);
        x.sheet(1, 0, 60);
        int slates = 0;
        for (int i = 0; i < 20; i++) {
            x.lay(0, 3 * i + 1, 20 + i);
        }
        for (int i = 0; i < 20; i++) {
            Due.is("the other sheet's", x.haul(1, 0, 3 * i, 1), -21);
            Due.is("haul", x.haul(0, 0, 3 * i, 1), 1);
            slates += 20 + i;
            Due.is("slates", x.slates(0), slates);
        }
    }

    private static void aLaterOneTakesItsPlace() {
        SlateQuarry x = withSheet(2);
        x.lay(0, 1, 41);
        Due.is("LENGTH 41", x.haul(0, 2, 0, 1), -21);
        x.lay(0, 1, 2);
        Due.is("LENGTH 2", x.haul(0, 2, 0, 1), 1);
        Due.is("slates", x.slates(0), 2);
    }

    private static void noSheet() {
        for (int k : Due.outside(0, 3)) {
            Refused.is("lay(" + k + ", 1, 5)", Past::let, x -> x.lay(k, 1, 5), Due.BAD);
            Refused.is("lay(" + k + ", -1, 5)", Past::let, x -> x.lay(k, -1, 5), Due.BAD);
        }
    }

    private static void nothing() {
        Refused.is("lay(3, 1, 5)", Past::let, x -> x.lay(3, 1, 5), Due.NULL);
        SlateQuarry x = new SlateQuarry();
        for (int k = 0; k < 4; k++) {
            Due.is("lay on " + k, x.lay(k, 0, 0), Due.NULL);
        }
        x.sheet(3, 0, -1);
        Due.is("a refused sheet is nothing", x.lay(3, 0, 0), Due.NULL);
    }

    private static void noCell() {
        for (int k = 0; k < 3; k++) {
            int taken = k;
            for (int i : Due.outside(0, 2)) {
                Refused.is("lay(" + k + ", " + i + ", 5)", Past::let, x -> x.lay(taken, i, 5), Due.INDEX);
            }
        }
        SlateQuarry x = new SlateQuarry();
        x.sheet(0, 2, 60);
        Due.is("60", x.lay(0, 60, 5), Due.INDEX);
        Due.is("59", x.lay(0, 59, 5), 1);
        x.sheet(0, 2, 0);
        Due.is("0 of none", x.lay(0, 0, 5), Due.INDEX);
    }

    private static void nullIsAheadOfIndex() {
        for (int i : Due.outside(0, 59)) {
            Refused.is("lay(3, " + i + ", 5)", Past::let, x -> x.lay(3, i, 5), Due.NULL);
        }
    }
}
