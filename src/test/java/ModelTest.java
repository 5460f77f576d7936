import java.util.Random;

/** Random runs of calls, the same in every run of the test, whose answers must be the model's. */
public final class ModelTest {
    private static final int RUNS = 1500;
    // An object serves for 512 calls, and one step of a run may make some forty.
    private static final int CALLS = 512 - 40;

    private final Random random;
    private final SlateQuarry x = new SlateQuarry();
    private final Model m = new Model();
    private final String where;

    private ModelTest(int run) {
        random = new Random(run);
        where = "run " + run + ": ";
    }

    public static void main(String[] args) {
        for (int run = 0; run < RUNS; run++) {
            new ModelTest(run).play(run % 3);
        }
        Due.end();
    }

    private void play(int wildness) {
        int calls = 0;
        while (calls < CALLS) {
            int odd = wildness == 0 ? 0 : wildness == 1 ? 4 : 12;
            calls += call(random.nextInt(30), odd);
        }
    }

    /** A number of a range; now and then, of a hundred calls, one at its edges or beyond them. */
    private int any(int least, int greatest, int odd) {
        if (random.nextInt(100) >= odd) {
            return least + random.nextInt(greatest - least + 1);
        }
        int[] edges = {least - 1, least, greatest, greatest + 1, -1, 0, Integer.MIN_VALUE, Integer.MAX_VALUE,
            random.nextInt()};
        return edges[random.nextInt(edges.length)];
    }

    private int crew(int odd) {
        return any(0, Math.max(0, m.count(0) - 1), odd);
    }

    private long flaws(int length, int odd) {
        if (random.nextInt(100) < odd) {
            return random.nextBoolean() ? random.nextLong() : 1L << Math.floorMod(length, 64);
        }
        long bits = random.nextLong() & random.nextLong() & random.nextLong();
        bits = random.nextBoolean() ? bits & random.nextLong() : bits;
        return length >= 1 && length <= 40 ? bits & (1L << length) - 1 : bits;
    }

    private void same(String call, int got, int want) {
        Due.is(where + call, got, want);
    }

    private int call(int which, int odd) {
        switch (which) {
            case 0: return random.nextInt(4) == 0 ? tellLaws(odd) : look(odd);
            case 1: return rock(odd);
            case 2: return clear(odd);
            case 3: case 4: return gang(odd);
            case 5: return move(odd);
            case 6: case 7: case 8: case 9: return ask(odd);
            case 10: return let(odd);
            case 11: return month(odd);
            case 12: return size(odd);
            case 13: return split(odd);
            case 14: case 15: case 16: case 17: case 18: return work(odd);
            case 19: case 20: return sheet(odd);
            case 21: case 22: return layBlock(odd);
            case 23: case 24: return haul(odd);
            default: return look(odd);
        }
    }

    private String word() {
        String[] words = {"top", "hang", "tool", "club", "pound", "pound", "pound", "top", "hang", ";", "tap", "", "?"};
        return words[random.nextInt(random.nextInt(6) == 0 ? words.length : 9)];
    }

    private String number() {
        int[] bounds = {3, 6, 10, 25, 110, 310, 1100, 12000};
        return String.valueOf(random.nextInt(bounds[random.nextInt(bounds.length)]));
    }

    private String text() {
        StringBuilder text = new StringBuilder();
        int many = random.nextInt(7);
        int goodness = 0;
        for (int i = 0; i < many; i++) {
            String word = word();
            text.append(word).append(" ".repeat(random.nextInt(3)));
            if (word.equals("pound")) {
                goodness += random.nextInt(4);
                text.append(goodness).append(' ').append(random.nextInt(310));
            } else if (word.equals("hang") && random.nextInt(4) > 0) {
                text.append(1 + random.nextInt(8));
            } else {
                text.append(number());
            }
            text.append(random.nextInt(20) == 0 ? " " : " ".repeat(random.nextInt(2)) + ";");
        }
        if (random.nextInt(6) == 0 && text.length() > 0) {
            text.setCharAt(random.nextInt(text.length()), (char) random.nextInt(256));
        }
        return text.toString();
    }

    private int tellLaws(int odd) {
        int calls = 0;
        String text = text();
        int before = m.end(0);
        same("end(0)", x.end(0), before);
        for (int i = 0; i < text.length(); i += 8) {
            long eight = 0;
            for (int k = i; k < i + 8; k++) {
                eight = eight << 8 | (k < text.length() ? text.charAt(k) : ' ');
            }
            same("feed", x.feed(eight), m.feed(eight));
            calls++;
        }
        int n = random.nextInt(100) < odd ? any(0, 200, 50) : text.length();
        same("end(" + n + ")", x.end(n), m.end(n));
        same("laws of '" + text + "'", x.laws(), m.laws());
        same("fault of '" + text + "'", x.fault(), m.fault());
        return calls + 4;
    }

    private int rock(int odd) {
        int g = any(0, 4, odd), c = any(0, 5, odd), v = any(0, 9, odd);
        same("rock", x.rock(g, c, v), m.rock(g, c, v));
        return 1;
    }

    private int clear(int odd) {
        int calls = 0;
        for (int w = 0; w < 30; w++) {
            if (m.face(w / 6, w % 6, 2) == 1 && random.nextInt(3) > 0) {
                int gang = crew(odd);
                same("clear", x.clear(w / 6, w % 6, gang), m.clear(w / 6, w % 6, gang));
                calls++;
            }
        }
        int g = any(0, 4, odd), c = any(0, 5, odd), gang = crew(odd);
        same("clear", x.clear(g, c, gang), m.clear(g, c, gang));
        return calls + 1;
    }

    private int gang(int odd) {
        int men = any(1, 6, odd);
        same("gang", x.gang(men), m.gang(men));
        return 1;
    }

    private int move(int odd) {
        int from = crew(odd), to = crew(odd), n = any(1, 3, odd);
        same("move", x.move(from, to, n), m.move(from, to, n));
        return 1;
    }

    private int ask(int odd) {
        int gang = crew(odd), g = any(0, random.nextInt(5), odd), c = any(0, 2, odd);
        int pence = random.nextInt(3) == 0 ? any(0, 9999, odd) : any(0, 5, odd);
        same("ask", x.ask(gang, g, c, pence), m.ask(gang, g, c, pence));
        return 1;
    }

    private int let(int odd) {
        if (m.count(3) > 3 || random.nextInt(10) == 0) {
            same("let", x.let(), m.let());
        }
        return 1;
    }

    private int month(int odd) {
        if (random.nextInt(3) == 0) {
            same("month", x.month(), m.month());
        }
        return 1;
    }

    private int size(int odd) {
        int length = any(1, random.nextInt(3) == 0 ? 20 : 6, odd);
        int price = any(1, random.nextInt(3) == 0 ? 200 : 8, odd);
        if (random.nextInt(4) == 0) {
            same("size", x.size(length, price), m.size(length, price));
        }
        return 1;
    }

    private int split(int odd) {
        int length = any(1, 40, odd);
        long flaws = flaws(length, odd);
        same("most", x.most(length, flaws), m.most(length, flaws));
        for (int i = 0; i < 6; i++) {
            int at = any(0, 12, odd);
            same("split " + length + " " + flaws + " " + at, x.split(length, flaws, at), m.split(length, flaws, at));
        }
        return 7;
    }

    private int work(int odd) {
        int gang = crew(odd), length = any(1, 40, odd);
        long flaws = flaws(length, odd);
        same("work", x.work(gang, length, flaws), m.work(gang, length, flaws));
        return 1;
    }

    private int sheet(int odd) {
        if (random.nextInt(4) > 0) {
            return layBlock(odd);
        }
        int k = any(0, 3, odd), lane = any(0, 2, odd), n = any(0, 60, odd);
        same("sheet", x.sheet(k, lane, n), m.sheet(k, lane, n));
        return 1;
    }

    private int layBlock(int odd) {
        int k = any(0, 3, odd), at = random.nextInt(8) == 0 ? any(0, 60, odd) : 3 * any(0, 5, odd);
        int length = any(1, 40, odd);
        long gang = crew(odd), flaws = flaws(length, odd) & (random.nextInt(3) > 0 ? 63 : -1);
        long high = random.nextInt(100) < 2 * odd ? random.nextLong() << (8 << random.nextInt(4)) : 0;
        long[] cells = {gang | high, length | high, flaws | high};
        for (int i = 0; i < 3; i++) {
            same("lay", x.lay(k, at + i, cells[i]), m.lay(k, at + i, cells[i]));
        }
        return 3;
    }

    private int haul(int odd) {
        int k = any(0, 3, odd), f = 3 * random.nextInt(4) + (random.nextInt(8) == 0 ? any(0, 3, odd) : 0);
        int n = any(0, random.nextInt(4) == 0 ? 20 : 3, odd);
        int from = random.nextInt(100) < odd ? any(0, 60, 50) : f;
        for (int lane = 0; lane < 3; lane++) {
            same("haul", x.haul(k, lane, from, n), m.haul(k, lane, from, n));
        }
        int none = any(0, 2, odd);
        same("haul", x.haul(k, none, from, n), m.haul(k, none, from, n));
        return 4;
    }

    private int look(int odd) {
        int what = any(0, 9, odd);
        same("count " + what, x.count(what), m.count(what));
        int law = any(0, 19, odd);
        same("law " + law, x.law(law), m.law(law));
        int gang = crew(odd), told = any(0, 5, odd);
        same("told " + told, x.told(gang, told), m.told(gang, told));
        int g = any(0, 4, odd), c = any(0, 5, odd), face = any(0, 4, odd);
        same("face " + face, x.face(g, c, face), m.face(g, c, face));
        int size = any(0, Math.max(0, m.count(1) - 1), odd);
        same("slates", x.slates(size), m.slates(size));
        return 5;
    }
}
