/** Promise 20, slates: "How many slates of a SIZE came of all BLOCKS worked. BAD." */
public final class Promise20SlatesTest {
    public static void main(String[] args) {
        noneYet();
        ofAllBlocksWorked();
        ofTheSplit();
        onlyOfBlocksWorked();
        sizesThatComeLater();
        noSize();
        changesNothing();
        Due.end();
    }

    private static void noneYet() {
        SlateQuarry x = new SlateQuarry();
        for (int i = 0; i < 8; i++) {
            x.size(1, 1);
            Due.is("slates(" + i + ")", x.slates(i), 0);
        }
    }

    private static SlateQuarry threeSizes() {
        SlateQuarry x = Past.gangAtWall("", 1, 0);
        x.size(4, 10);
        x.size(7, 20);
        x.size(3, 6);
        return x;
    }

    private static void counts(SlateQuarry x, int... due) {
        for (int i = 0; i < due.length; i++) {
            Due.is("slates(" + i + ")", x.slates(i), due[i]);
        }
    }

    private static void ofAllBlocksWorked() {
        SlateQuarry x = threeSizes();
        x.work(0, 20, 0);
        counts(x, 0, 2, 2);
        x.work(0, 20, 34);
        counts(x, 0, 4, 3);
        x.month();
        counts(x, 0, 4, 3);
        x.gang(1);
        x.ask(1, 3, 3, 0);
        x.let();
        x.work(1, 4, 0);
        counts(x, 1, 4, 3);
        SlateQuarry y = Past.gangAtWall("", 1, 0);
        y.size(1, 1);
        for (int i = 1; i <= 50; i++) {
            y.work(0, 40, 0);
            Due.is("slates", y.slates(0), 40 * i);
        }
    }

    private static void ofTheSplit() {
        SlateQuarry x = Past.gangAtWall("", 1, 0);
        x.size(2, 2);
        x.size(1, 1);
        x.size(2, 2);
        x.work(0, 5, 0);
        counts(x, 2, 1, 0);
        x.work(0, 3, 7);
        counts(x, 2, 1, 0);
    }

    private static void onlyOfBlocksWorked() {
        SlateQuarry x = threeSizes();
        x.most(20, 0);
        x.split(20, 0, 0);
        x.work(0, 41, 0);
        x.work(1, 20, 0);
        counts(x, 0, 0, 0);
        x.month();
        x.work(0, 20, 0);
        counts(x, 0, 0, 0);
    }

    private static void sizesThatComeLater() {
        SlateQuarry x = threeSizes();
        x.work(0, 20, 0);
        x.size(1, 200);
        counts(x, 0, 2, 2, 0);
        x.work(0, 3, 0);
        counts(x, 0, 2, 2, 3);
    }

    private static void noSize() {
        Due.is("no sizes at all", new SlateQuarry().slates(0), Due.BAD);
        for (int size : Due.outside(0, 2)) {
            Refused.is("slates(" + size + ")", Past::open, x -> x.slates(size), Due.BAD);
        }
        for (int size : Due.outside(0, 7)) {
            Refused.is("slates(" + size + ")", Past::full, x -> x.slates(size), Due.BAD);
        }
    }

    private static void changesNothing() {
        Refused.changesNothing("slates(1)", Past::let, x -> x.slates(1));
    }
}
