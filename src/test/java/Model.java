import java.util.ArrayList;
import java.util.Arrays;
import java.util.Collections;
import java.util.Comparator;
import java.util.HashMap;
import java.util.List;
import java.util.Map;
import java.util.Optional;
import java.util.TreeMap;
import java.util.regex.Matcher;
import java.util.regex.Pattern;

/** A second reading of the document, in the plainest form that Java's library allows. */
final class Model {
    private static final int FAR_BAD = -1000000, FAR_STATE = -1000002;

    private static final class Crew {
        int number, men, account, letSoFar, letFor, blocks;
        Integer wall;
        boolean worked;
        final Map<Integer, Integer> asks = new HashMap<>();
    }

    private record Slate(int length, int price) {
    }

    private record Best(int sum, List<Integer> pieces) {
    }

    private String tape = "";
    private int latestFault = 0;
    private Map<String, Integer> numbers = new HashMap<>();
    private TreeMap<Integer, Integer> pounds = new TreeMap<>();

    private final int[] goodness = new int[30], steps = new int[30];
    private final boolean[] loose = new boolean[30];
    private final List<Crew> crews = new ArrayList<>();
    private final List<Slate> sizes = new ArrayList<>();
    private final List<Integer> split = new ArrayList<>();
    private boolean isLet = false;
    private int month = 0, club = 0, blocks = 0;
    private final Object[] sheets = new Object[4];

    Model() {
        Arrays.fill(goodness, 5);
    }

    // ---- laws

    int feed(long v) {
        if (tape.length() + 8 > 200) {
            return -3;
        }
        for (byte b : java.nio.ByteBuffer.allocate(8).putLong(v).array()) {
            tape += (char) (b & 255);
        }
        return tape.length();
    }

    int end(int n) {
        if (n < 0 || n > tape.length()) {
            return -1;
        }
        int had = tape.length();
        tape = tape.substring(0, n);
        return had;
    }

    private record Fault(int kind, int place) {
    }

    private static final Pattern TOKEN = Pattern.compile(" *([a-z]+|[0-9]+|;|\\z|.)", Pattern.DOTALL);
    private static final Map<String, int[]> BOUNDS = Map.of("top", new int[] {0, 9999}, "hang", new int[] {1, 20},
            "tool", new int[] {0, 999}, "club", new int[] {0, 100}, "pound", new int[] {0, 9});

    int laws() {
        Matcher m = TOKEN.matcher(tape);
        Map<String, Integer> newNumbers = new HashMap<>();
        TreeMap<Integer, Integer> newPounds = new TreeMap<>();
        Fault fault = readAll(m, newNumbers, newPounds);
        tape = "";
        latestFault = fault == null ? 0 : fault.kind;
        if (fault != null) {
            return -10 - fault.place;
        }
        numbers = newNumbers;
        pounds = newPounds;
        return numbers.size() + pounds.size();
    }

    /** N a number, L a law's name, ; a stop, $ the end, ? none. */
    private static char kindOf(String token) {
        if (token.isEmpty()) {
            return '$';
        }
        if (token.matches("[0-9]{1,4}")) {
            return 'N';
        }
        return BOUNDS.containsKey(token) ? 'L' : token.equals(";") ? ';' : '?';
    }

    private static Fault readAll(Matcher m, Map<String, Integer> numbers, TreeMap<Integer, Integer> pounds) {
        String form = "";
        String law = "";
        int last = 0;
        while (m.lookingAt()) {
            String token = m.group(1);
            int place = m.start(1);
            char kind = kindOf(token);
            if (kind == '?') {
                return new Fault(1, place);
            }
            if (kind == '$' && form.isEmpty()) {
                return null;
            }
            String due = form.isEmpty() ? "L" : law.equals("pound") ? "LNN;" : "LN;";
            if (due.charAt(form.length()) != kind) {
                return new Fault(2, place);
            }
            form += kind;
            if (kind == 'L') {
                law = token;
                if (numbers.containsKey(law) || law.equals("pound") && pounds.size() == 4) {
                    return new Fault(4, place);
                }
            }
            if (kind == 'N') {
                int n = Integer.parseInt(token);
                int[] bounds = form.length() == 2 ? BOUNDS.get(law) : new int[] {0, 300};
                if (n < bounds[0] || n > bounds[1]) {
                    return new Fault(3, place);
                }
                if (form.length() == 3) {
                    pounds.put(last, n);
                } else if (law.equals("pound")) {
                    if (!pounds.isEmpty() && pounds.lastKey() >= n) {
                        return new Fault(5, place);
                    }
                    last = n;
                } else {
                    numbers.put(law, n);
                }
            }
            if (kind == ';') {
                form = "";
            }
            m.region(m.end(), m.regionEnd());
        }
        throw new IllegalStateException("a token always matches");
    }

    int fault() {
        return latestFault;
    }

    int law(int what) {
        if (what >= 10 && what <= 19) {
            return poundage(what - 10);
        }
        switch (what) {
            case 0: return numbers.getOrDefault("top", -4);
            case 1: return numbers.getOrDefault("hang", -4);
            case 2: return numbers.getOrDefault("tool", 0);
            case 3: return numbers.getOrDefault("club", 0);
            default: return -1;
        }
    }

    private int poundage(int good) {
        Map.Entry<Integer, Integer> entry = pounds.ceilingEntry(good);
        return entry == null ? 0 : entry.getValue();
    }

    // ---- faces, gangs

    private static boolean noWall(int g, int c) {
        return g < 0 || g > 4 || c < 0 || c > 5;
    }

    private boolean noCrew(long gang) {
        return gang < 0 || gang >= crews.size();
    }

    private boolean workable(int w) {
        boolean all = true;
        for (int g = w / 6; g < 5; g++) {
            all &= !loose[6 * g + w % 6];
        }
        return all;
    }

    int rock(int g, int c, int v) {
        if (noWall(g, c) || v < 0 || v > 9) {
            return -1;
        }
        int was = goodness[6 * g + c];
        goodness[6 * g + c] = v;
        return was;
    }

    int face(int g, int c, int what) {
        if (noWall(g, c) || what < 0 || what > 4) {
            return -1;
        }
        int w = 6 * g + c;
        int holder = crews.stream().filter(x -> x.wall != null && x.wall == w).map(x -> x.number).findAny().orElse(-4);
        return new int[] {goodness[w], steps[w], loose[w] ? 1 : 0, workable(w) ? 1 : 0, holder}[what];
    }

    int clear(int g, int c, int gang) {
        if (noWall(g, c) || noCrew(gang)) {
            return -1;
        }
        if (!loose[6 * g + c]) {
            return -2;
        }
        loose[6 * g + c] = false;
        crews.get(gang).account += 20 * crews.get(gang).men;
        return 1;
    }

    int gang(int men) {
        if (men < 1 || men > 6) {
            return -1;
        }
        if (crews.size() == 8) {
            return -3;
        }
        Crew crew = new Crew();
        crew.number = crews.size();
        crew.men = men;
        crews.add(crew);
        return crew.number;
    }

    int told(int gang, int what) {
        if (noCrew(gang) || what < 0 || what > 5) {
            return FAR_BAD;
        }
        Crew x = crews.get(gang);
        return new int[] {x.men, x.account, x.letSoFar, x.wall == null ? -4 : x.wall, x.letFor, x.blocks}[what];
    }

    int move(int from, int to, int n) {
        if (noCrew(from) || noCrew(to) || from == to || n < 1) {
            return FAR_BAD;
        }
        Crew a = crews.get(from), b = crews.get(to);
        if (n > a.men - 1 || (long) b.men + n > 6) {
            return FAR_BAD;
        }
        if (a.wall != null || b.wall != null) {
            return FAR_STATE;
        }
        int share = new java.math.BigDecimal((long) a.account * n)
                .divide(new java.math.BigDecimal(a.men), 0, java.math.RoundingMode.FLOOR).intValueExact();
        a.account -= share;
        b.account += share;
        a.men -= n;
        b.men += n;
        return share;
    }

    // ---- letting

    private int asks() {
        return crews.stream().mapToInt(x -> x.asks.size()).sum();
    }

    int ask(int gang, int g, int c, int pence) {
        if (noCrew(gang) || noWall(g, c) || pence < 0 || pence > 9999) {
            return -1;
        }
        if (isLet) {
            return -2;
        }
        crews.get(gang).asks.put(6 * g + c, pence);
        return asks();
    }

    int let() {
        if (isLet) {
            return -2;
        }
        isLet = true;
        int many = 0;
        for (int wall = 0; wall < 30; wall++) {
            int w = wall;
            Optional<Crew> best = crews.stream()
                    .filter(x -> workable(w) && x.wall == null && x.asks.containsKey(w))
                    .filter(x -> x.asks.get(w) <= numbers.getOrDefault("top", 9999))
                    .min(Comparator.<Crew>comparingInt(x -> x.asks.get(w))
                            .thenComparingInt(x -> x.letSoFar).thenComparingInt(x -> x.number));
            if (best.isPresent()) {
                Crew x = best.get();
                x.wall = w;
                x.letFor = x.asks.get(w);
                x.letSoFar++;
                many++;
            }
        }
        return many;
    }

    int month() {
        if (!isLet) {
            return -2;
        }
        for (Crew x : crews) {
            x.wall = null;
            x.letFor = 0;
            x.worked = false;
            x.asks.clear();
        }
        isLet = false;
        return ++month;
    }

    // ---- blocks

    int size(int length, int price) {
        if (length < 1 || length > 20 || price < 1 || price > 200) {
            return -1;
        }
        if (sizes.size() == 8) {
            return -3;
        }
        sizes.add(new Slate(length, price));
        return sizes.size() - 1;
    }

    private static boolean noBlock(long length, long flaws) {
        return length < 1 || length > 40 || flaws < 0 || flaws >= 1L << length;
    }

    /** The best of all splits from a place on: each that may begin there, looked at whole. */
    private Best best(int place, int length, long flaws, Map<Integer, Best> known) {
        if (place == length) {
            return new Best(0, List.of());
        }
        if (known.containsKey(place)) {
            return known.get(place);
        }
        List<Best> all = new ArrayList<>();
        all.add(with(8, 0, best(place + 1, length, flaws, known)));
        for (int i = 0; i < sizes.size(); i++) {
            Slate s = sizes.get(i);
            boolean sound = place + s.length <= length;
            for (int p = place; sound && p < place + s.length; p++) {
                sound = (flaws >> p & 1) == 0;
            }
            if (sound) {
                all.add(with(i, s.price, best(place + s.length, length, flaws, known)));
            }
        }
        Best found = Collections.max(all, Comparator.comparingInt(Best::sum)
                .thenComparing((a, b) -> -Arrays.compare(ints(a.pieces), ints(b.pieces))));
        known.put(place, found);
        return found;
    }

    private static Best with(int piece, int price, Best rest) {
        List<Integer> pieces = new ArrayList<>(List.of(piece));
        pieces.addAll(rest.pieces);
        return new Best(price + rest.sum, pieces);
    }

    private static int[] ints(List<Integer> list) {
        return list.stream().mapToInt(i -> i).toArray();
    }

    int most(int length, long flaws) {
        return noBlock(length, flaws) ? -1 : best(0, length, flaws, new HashMap<>()).sum;
    }

    int split(int length, long flaws, int i) {
        if (noBlock(length, flaws) || i < 0) {
            return -1;
        }
        List<Integer> pieces = best(0, length, flaws, new HashMap<>()).pieces;
        return i >= pieces.size() ? -4 : pieces.get(i) == 8 ? -5 : pieces.get(i);
    }

    int work(int gang, int length, long flaws) {
        return workOf(gang, length, flaws);
    }

    private int workOf(long gang, long length, long flaws) {
        if (noCrew(gang) || noBlock(length, flaws)) {
            return FAR_BAD;
        }
        Crew x = crews.get((int) gang);
        if (x.wall == null || !workable(x.wall)) {
            return FAR_STATE;
        }
        int w = x.wall;
        Best best = best(0, (int) length, flaws, new HashMap<>());
        split.addAll(best.pieces);
        blocks++;
        x.blocks++;
        steps[w]++;
        if (numbers.containsKey("hang") && w < 24 && steps[w] >= steps[w + 6] + numbers.get("hang")) {
            loose[w + 6] = true;
        }
        int earned = best.sum + best.sum * poundage(goodness[w]) / 100 + x.letFor;
        int toClub = earned * law(3) / 100;
        club += toClub;
        x.account += earned - toClub;
        if (!x.worked) {
            x.account -= law(2) * x.men;
        }
        x.worked = true;
        return earned - toClub;
    }

    int slates(int size) {
        return size < 0 || size >= sizes.size() ? -1 : Collections.frequency(split, size);
    }

    // ---- sheets: real rows, whose faults the machine finds

    int sheet(int k, int lane, int n) {
        if (k < 0 || k > 3 || lane < 0 || lane > 2 || n > 60) {
            return -1;
        }
        try {
            sheets[k] = lane == 0 ? new byte[n] : lane == 1 ? new short[n] : new long[n];
            return 1;
        } catch (NegativeArraySizeException e) {
            return -14;
        }
    }

    int lay(int k, int i, long v) {
        if (k < 0 || k > 3) {
            return -1;
        }
        try {
            if (sheets[k] instanceof byte[] b) {
                b[i] = (byte) v;
            } else if (sheets[k] instanceof short[] s) {
                s[i] = (short) v;
            } else {
                ((long[]) sheets[k])[i] = v;
            }
            return 1;
        } catch (NullPointerException e) {
            return -11;
        } catch (ArrayIndexOutOfBoundsException e) {
            return -12;
        }
    }

    private static long cell(Object row, int lane, int i) {
        return lane == 0 ? ((byte[]) row)[i] : lane == 1 ? ((short[]) row)[i] : ((long[]) row)[i];
    }

    int haul(int k, int lane, int f, int n) {
        if (k < 0 || k > 3 || lane < 0 || lane > 2 || n < 0 || n > 20) {
            return -1;
        }
        Object row = sheets[k];
        if (row == null) {
            return -11;
        }
        try {
            Object same = lane == 0 ? (byte[]) row : lane == 1 ? (short[]) row : (long[]) row;
            for (int i = 0; i < n; i++) {
                int at = f + 3 * i;
                int came = workOf(cell(same, lane, at), cell(same, lane, at + 1), cell(same, lane, at + 2));
                if (came == FAR_BAD || came == FAR_STATE) {
                    return came == FAR_BAD ? -21 : -22;
                }
            }
            return n;
        } catch (ClassCastException e) {
            return -13;
        } catch (ArrayIndexOutOfBoundsException e) {
            return -12;
        }
    }

    int count(int what) {
        if (what < 0 || what > 9) {
            return -1;
        }
        int held = (int) crews.stream().filter(x -> x.wall != null).count();
        int looseOnes = 0;
        for (boolean l : loose) {
            looseOnes += l ? 1 : 0;
        }
        return new int[] {crews.size(), sizes.size(), month, asks(), held, looseOnes, club, blocks,
            Collections.frequency(split, 8), numbers.size() + pounds.size()}[what];
    }
}
