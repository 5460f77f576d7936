/** Promise 1, a new object: "MONTH 0; no GANGS, SIZES, laws; SHEETS of nothing", and what Terms say is so at first. */
public final class Promise01NewObjectTest {
    public static void main(String[] args) {
        isMonth0(new SlateQuarry());
        hasNoGangs(new SlateQuarry());
        hasNoSizes(new SlateQuarry());
        hasNoLaws(new SlateQuarry());
        hasSheetsOfNothing(new SlateQuarry());
        hasWallsAsAtFirst(new SlateQuarry());
        hasAnEmptyTape(new SlateQuarry());
        countsNothing(new SlateQuarry());
        sharesNothingWithOthers();
        Due.end();
    }

    private static void isMonth0(SlateQuarry x) {
        Due.is("count(2)", x.count(2), 0);
        Due.is("month 0 is not let", x.month(), Due.STATE);
        Due.is("let()", x.let(), 0);
        Due.is("the month behind it", x.month(), 1);
    }

    private static void hasNoGangs(SlateQuarry x) {
        Due.is("count(0)", x.count(0), 0);
        for (int what = 0; what <= 5; what++) {
            Due.is("told(0, " + what + ")", x.told(0, what), Due.FAR_BAD);
        }
        Due.is("ask of gang 0", x.ask(0, 0, 0, 0), Due.BAD);
        Due.is("work of gang 0", x.work(0, 1, 0), Due.FAR_BAD);
        Due.is("clear by gang 0", x.clear(0, 0, 0), Due.BAD);
        Due.is("move from 0 to 1", x.move(0, 1, 1), Due.FAR_BAD);
        Due.is("the first number", x.gang(1), 0);
    }

    private static void hasNoSizes(SlateQuarry x) {
        Due.is("count(1)", x.count(1), 0);
        Due.is("slates(0)", x.slates(0), Due.BAD);
        Due.is("most", x.most(40, 0), 0);
        Due.is("split", x.split(1, 0, 0), Due.RUBBISH);
        Due.is("the first number", x.size(1, 1), 0);
    }

    private static void hasNoLaws(SlateQuarry x) {
        Due.is("count(9)", x.count(9), 0);
        Due.is("fault()", x.fault(), 0);
        Due.is("top", x.law(0), Due.NONE);
        Due.is("hang", x.law(1), Due.NONE);
        Due.is("tool", x.law(2), 0);
        Due.is("club", x.law(3), 0);
        for (int goodness = 0; goodness <= 9; goodness++) {
            Due.is("poundage of " + goodness, x.law(10 + goodness), 0);
        }
    }

    private static void hasSheetsOfNothing(SlateQuarry x) {
        for (int k = 0; k < 4; k++) {
            Due.is("lay on " + k, x.lay(k, 0, 0), Due.NULL);
            for (int lane = 0; lane < 3; lane++) {
                Due.is("haul of " + k, x.haul(k, lane, 0, 0), Due.NULL);
            }
        }
    }

    private static void hasWallsAsAtFirst(SlateQuarry x) {
        int[] atFirst = {5, 0, 0, 1, Due.NONE};
        for (int w = 0; w < 30; w++) {
            for (int what = 0; what < atFirst.length; what++) {
                Due.is("face(" + w / 6 + ", " + w % 6 + ", " + what + ")", x.face(w / 6, w % 6, what), atFirst[what]);
            }
        }
    }

    private static void hasAnEmptyTape(SlateQuarry x) {
        Due.is("end(0)", x.end(0), 0);
        Due.is("laws()", x.laws(), 0);
        Due.is("the first eight bytes", x.feed(0), 8);
    }

    private static void countsNothing(SlateQuarry x) {
        for (int what = 0; what <= 9; what++) {
            Due.is("count(" + what + ")", x.count(what), 0);
        }
    }

    private static void sharesNothingWithOthers() {
        SlateQuarry earlier = new SlateQuarry();
        SlateQuarry used = new SlateQuarry();
        Past.let(used);
        for (SlateQuarry x : new SlateQuarry[] {earlier, new SlateQuarry()}) {
            countsNothing(x);
            hasNoLaws(x);
            hasWallsAsAtFirst(x);
            hasSheetsOfNothing(x);
            hasAnEmptyTape(x);
            hasNoGangs(x);
            hasNoSizes(x);
        }
    }
}
