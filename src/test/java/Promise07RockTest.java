/** Promise 7, rock: "A WALL's GOODNESS becomes v: what it was. BAD." */
public final class Promise07RockTest {
    public static void main(String[] args) {
        becomesV();
        answersWhatItWas();
        eachWallHasItsOwn();
        noWall();
        noGoodness();
        Due.end();
    }

    private static void becomesV() {
        SlateQuarry x = new SlateQuarry();
        for (int v = 0; v <= 9; v++) {
            x.rock(2, 3, v);
            Due.is("GOODNESS", x.face(2, 3, 0), v);
        }
    }

    /** "GOODNESS (0 to 9; 5 at first)" */
    private static void answersWhatItWas() {
        SlateQuarry x = new SlateQuarry();
        int was = 5;
        for (int v : new int[] {0, 9, 9, 0, 0, 1, 8, 5}) {
            Due.is("rock to " + v, x.rock(0, 0, v), was);
            was = v;
        }
        Due.is("behind a refused one", x.rock(0, 0, 10), Due.BAD);
        Due.is("what it was", x.rock(0, 0, 1), 5);
    }

    /** "GALLERIES g 0 to 4, COLUMNS c 0 to 5" */
    private static void eachWallHasItsOwn() {
        SlateQuarry x = new SlateQuarry();
        for (int w = 0; w < 30; w++) {
            Due.is("rock", x.rock(w / 6, w % 6, (w + w / 10) % 10), 5);
        }
        for (int w = 0; w < 30; w++) {
            Due.is("GOODNESS of " + w, x.face(w / 6, w % 6, 0), (w + w / 10) % 10);
        }
    }

    private static void noWall() {
        for (int g : Due.outside(0, 4)) {
            Refused.is("rock(" + g + ", 0, 1)", Past::open, x -> x.rock(g, 0, 1), Due.BAD);
        }
        for (int c : Due.outside(0, 5)) {
            Refused.is("rock(0, " + c + ", 1)", Past::open, x -> x.rock(0, c, 1), Due.BAD);
        }
        Refused.is("rock(1, -6, 1)", Past::open, x -> x.rock(1, -6, 1), Due.BAD);
        Refused.is("rock(-1, 6, 1)", Past::open, x -> x.rock(-1, 6, 1), Due.BAD);
    }

    private static void noGoodness() {
        for (int v : Due.outside(0, 9)) {
            Refused.is("rock(4, 5, " + v + ")", Past::open, x -> x.rock(4, 5, v), Due.BAD);
        }
    }
}
