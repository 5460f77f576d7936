/**
 * Promise 19, work: "When a WALL has hang STEPS more than the one right above it, or more than that, behind a BLOCK,
 * that one is LOOSE (until it is cleared). A LOOSE WALL, one under a LOOSE one in its COLUMN is not worked."
 */
public final class Promise19LooseTest {
    public static void main(String[] args) {
        hangStepsMore();
        orMoreThanThat();
        stepsOfTheOneAboveCount();
        theOneRightAboveAlone();
        theHighestHasNoneAbove();
        noHang();
        untilItIsCleared();
        anotherWallsBlockLoosensNothing();
        aRefusedBlockLoosensNothing();
        theBlockThatLoosensIsPaid();
        notWorked();
        workedAboveALooseOne();
        Due.end();
    }

    private static void hangStepsMore() {
        for (int hang = 1; hang <= 20; hang++) {
            SlateQuarry x = Past.gangAtWall("hang " + hang + ";", 1, 0);
            for (int steps = 1; steps <= hang; steps++) {
                Due.is("not LOOSE at " + (steps - 1), x.face(1, 0, 2), 0);
                Due.is("work", x.work(0, 1, 0), 0);
            }
            Due.is("LOOSE at " + hang, x.face(1, 0, 2), 1);
            Due.is("count(5)", x.count(5), 1);
        }
    }

    private static void orMoreThanThat() {
        SlateQuarry x = Past.gangAtWall("", 1, 0);
        for (int i = 0; i < 9; i++) {
            x.work(0, 1, 0);
        }
        Due.laws(x, "hang 3;", 1);
        Due.is("laws are no block", x.face(1, 0, 2), 0);
        x.work(0, 1, 0);
        Due.is("10 more", x.face(1, 0, 2), 1);
    }

    private static void stepsOfTheOneAboveCount() {
        SlateQuarry x = Past.withGangs(2);
        Due.laws(x, "hang 3;", 1);
        x.ask(0, 2, 1, 0);
        x.ask(1, 3, 1, 0);
        x.let();
        x.work(1, 1, 0);
        x.work(1, 1, 0);
        for (int i = 0; i < 4; i++) {
            Due.is("work", x.work(0, 1, 0), 0);
        }
        Due.is("4 to 2", x.face(3, 1, 2), 0);
        x.work(0, 1, 0);
        Due.is("5 to 2", x.face(3, 1, 2), 1);
        SlateQuarry y = Past.withGangs(1);
        Due.laws(y, "hang 1;", 1);
        y.ask(0, 2, 1, 0);
        y.let();
        y.work(0, 1, 0);
        Due.is("none below is LOOSE", y.face(1, 1, 2), 0);
    }

    private static void theOneRightAboveAlone() {
        for (int w = 0; w < 24; w++) {
            SlateQuarry x = Past.withGangs(1);
            Due.laws(x, "hang 1;", 1);
            x.ask(0, w / 6, w % 6, 0);
            x.let();
            x.work(0, 1, 0);
            Due.is("count(5)", x.count(5), 1);
            Due.is("right above " + w, x.face(w / 6 + 1, w % 6, 2), 1);
        }
    }

    private static void theHighestHasNoneAbove() {
        for (int c = 0; c < 6; c++) {
            SlateQuarry x = Past.withGangs(1);
            Due.laws(x, "hang 1;", 1);
            x.ask(0, 4, c, 0);
            x.let();
            for (int i = 0; i < 25; i++) {
                Due.is("work", x.work(0, 1, 0), 0);
            }
            Due.is("count(5)", x.count(5), 0);
        }
    }

    private static void noHang() {
        SlateQuarry x = Past.gangAtWall("", 1, 0);
        for (int i = 0; i < 400; i++) {
            x.work(0, 1, 0);
        }
        Due.is("count(5)", x.count(5), 0);
        Due.is("STEPS", x.face(0, 0, 1), 400);
    }

    private static void untilItIsCleared() {
        SlateQuarry x = Past.gangAtWall("hang 1;", 1, 0);
        x.work(0, 1, 0);
        x.month();
        Due.is("behind the month", x.face(1, 0, 2), 1);
        Due.laws(x, "hang 20;", 1);
        Due.is("with another hang", x.face(1, 0, 2), 1);
        x.rock(1, 0, 9);
        x.let();
        x.month();
        Due.is("later", x.face(1, 0, 2), 1);
        x.clear(1, 0, 0);
        Due.is("cleared", x.face(1, 0, 2), 0);
    }

    private static void anotherWallsBlockLoosensNothing() {
        SlateQuarry x = Past.withGangs(3);
        Due.laws(x, "hang 2;", 1);
        x.ask(0, 0, 0, 0);
        x.ask(1, 0, 1, 0);
        x.ask(2, 2, 0, 0);
        x.let();
        x.work(0, 1, 0);
        x.work(0, 1, 0);
        x.clear(1, 0, 0);
        x.work(1, 1, 0);
        Due.is("another column", x.count(5), 0);
        x.work(2, 1, 0);
        Due.is("another gallery", x.count(5), 0);
    }

    private static void aRefusedBlockLoosensNothing() {
        SlateQuarry x = Past.gangAtWall("hang 1;", 1, 0);
        x.work(0, 0, 0);
        x.work(0, 1, 2);
        Due.is("count(5)", x.count(5), 0);
        Due.is("STEPS", x.face(0, 0, 1), 0);
    }

    private static void theBlockThatLoosensIsPaid() {
        SlateQuarry x = Past.gangAtWall("hang 1;", 1, 8);
        Due.is("work", x.work(0, 1, 0), 8);
        Due.is("work under it", x.work(0, 1, 0), Due.FAR_STATE);
        Due.is("ACCOUNT", x.told(0, 1), 8);
        x.clear(1, 0, 0);
        Due.is("work", x.work(0, 1, 0), 8);
    }

    /** Gang 0 has wall (g - 1, 0), gang 1 another one of its column; gang 0 makes wall (g, 0) loose. */
    private static void column(SlateQuarry x, int g, int other) {
        Due.laws(x, "hang 1;", 1);
        x.gang(1);
        x.gang(1);
        x.ask(0, g - 1, 0, 0);
        x.ask(1, other, 0, 0);
        Due.is("let", x.let(), 2);
        x.work(0, 1, 0);
        Due.is("LOOSE", x.face(g, 0, 2), 1);
    }

    private static void notWorked() {
        for (int g = 1; g <= 4; g++) {
            for (int other = 0; other <= g; other++) {
                int loose = g;
                int under = other == g - 1 ? g : other;
                Refused.is("wall " + under + " with " + g + " LOOSE", x -> column(x, loose, under),
                        x -> x.work(1, 1, 0), Due.FAR_STATE);
                Refused.is("the one under it", x -> column(x, loose, under), x -> x.work(0, 1, 0), Due.FAR_STATE);
            }
        }
    }

    private static void workedAboveALooseOne() {
        for (int g = 1; g <= 3; g++) {
            for (int above = g + 1; above <= 4; above++) {
                SlateQuarry x = new SlateQuarry();
                column(x, g, above);
                Due.is("wall " + above + " with " + g + " LOOSE", x.work(1, 1, 0), 0);
                Due.is("STEPS", x.face(above, 0, 1), 1);
            }
        }
    }
}
