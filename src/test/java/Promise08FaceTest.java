/**
 * Promise 8, face: "Of a WALL: 0 GOODNESS, 1 STEPS, 2 whether it is LOOSE, 3 whether it may be worked,
 * 4 the GANG that has it (NONE). BAD."
 */
public final class Promise08FaceTest {
    public static void main(String[] args) {
        goodness();
        steps();
        loose();
        mayBeWorked();
        holder();
        noWall();
        noSuchThing();
        changesNothing();
        Due.end();
    }

    private static void goodness() {
        SlateQuarry x = new SlateQuarry();
        Due.is("at first", x.face(4, 5, 0), 5);
        x.rock(4, 5, 0);
        Due.is("the least", x.face(4, 5, 0), 0);
        x.rock(4, 5, 9);
        Due.is("the greatest", x.face(4, 5, 0), 9);
        Due.is("another wall", x.face(4, 4, 0), 5);
        Due.is("another wall", x.face(3, 5, 0), 5);
    }

    private static void steps() {
        SlateQuarry x = Past.withGangs(2);
        x.ask(1, 3, 2, 4);
        x.let();
        Due.is("ahead of all blocks", x.face(3, 2, 1), 0);
        x.work(1, 1, 0);
        Due.is("behind one", x.face(3, 2, 1), 1);
        x.work(1, 40, 0);
        Due.is("behind two", x.face(3, 2, 1), 2);
        x.work(1, 41, 0);
        Due.is("behind a refused one", x.face(3, 2, 1), 2);
        x.month();
        Due.is("behind the month", x.face(3, 2, 1), 2);
        Due.is("another wall", x.face(2, 3, 1), 0);
    }

    private static SlateQuarry withLoose(int g, int c) {
        SlateQuarry x = Past.withGangs(1);
        Due.laws(x, "hang 1;", 1);
        x.ask(0, g - 1, c, 0);
        x.let();
        x.work(0, 1, 0);
        return x;
    }

    private static void loose() {
        for (int w = 6; w < 30; w++) {
            SlateQuarry x = withLoose(w / 6, w % 6);
            for (int each = 0; each < 30; each++) {
                Due.is("LOOSE of " + each, x.face(each / 6, each % 6, 2), each == w ? 1 : 0);
            }
            x.clear(w / 6, w % 6, 0);
            Due.is("cleared", x.face(w / 6, w % 6, 2), 0);
        }
    }

    /** "A LOOSE WALL, one under a LOOSE one in its COLUMN is not worked." */
    private static void mayBeWorked() {
        for (int w = 6; w < 30; w++) {
            SlateQuarry x = withLoose(w / 6, w % 6);
            for (int each = 0; each < 30; each++) {
                boolean isUnder = each % 6 == w % 6 && each <= w;
                Due.is(each + " with " + w + " LOOSE", x.face(each / 6, each % 6, 3), isUnder ? 0 : 1);
            }
            x.clear(w / 6, w % 6, 0);
            Due.is("cleared", x.face(0, w % 6, 3), 1);
        }
    }

    private static void holder() {
        SlateQuarry x = Past.withGangs(8);
        x.ask(7, 4, 5, 3);
        x.ask(0, 0, 0, 3);
        Due.is("asked for, not let", x.face(4, 5, 4), Due.NONE);
        x.let();
        Due.is("the last gang", x.face(4, 5, 4), 7);
        Due.is("the first gang", x.face(0, 0, 4), 0);
        Due.is("not asked for", x.face(0, 1, 4), Due.NONE);
        x.month();
        Due.is("behind the month", x.face(4, 5, 4), Due.NONE);
        Due.is("behind the month", x.face(0, 0, 4), Due.NONE);
    }

    private static void noWall() {
        SlateQuarry x = new SlateQuarry();
        for (int what = 0; what <= 4; what++) {
            for (int g : Due.outside(0, 4)) {
                Due.is("face(" + g + ", 0, " + what + ")", x.face(g, 0, what), Due.BAD);
            }
            for (int c : Due.outside(0, 5)) {
                Due.is("face(0, " + c + ", " + what + ")", x.face(0, c, what), Due.BAD);
            }
        }
        Due.is("face(1, -6, 0)", x.face(1, -6, 0), Due.BAD);
        Due.is("face(-1, 6, 0)", x.face(-1, 6, 0), Due.BAD);
    }

    private static void noSuchThing() {
        for (int what : Due.outside(0, 4)) {
            Refused.is("face(0, 0, " + what + ")", Past::let, x -> x.face(0, 0, what), Due.BAD);
        }
    }

    private static void changesNothing() {
        for (int what = 0; what <= 4; what++) {
            int looked = what;
            Refused.changesNothing("face(1, 0, " + what + ")", Past::let, x -> x.face(1, 0, looked));
        }
    }
}
