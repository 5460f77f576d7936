import java.util.Arrays;

/**
 * A slate quarry: walls let each month to gangs, blocks split into slates, pay by count, laws told
 * on a tape, and sheets of blocks. The document's promises say what each call does and answers.
 */
public final class SlateQuarry {
    public static final int BAD = -1, STATE = -2, FULL = -3, NONE = -4;

    // Where an answer may be pence below 0, refusals lie far below every sum that a call can answer.
    private static final int FAR_BAD = -1000000;
    private static final int FAR_STATE = -1000002;

    private static final int FAULT_BASE = -10;
    private static final int HAUL_NO_BLOCK = -21;
    private static final int HAUL_NOT_WORKED = -22;

    private static final int MOST_GANGS = 8;
    private static final int MOST_MEN = 6;
    private static final int HIGHEST_ASK = 9999;
    private static final int CLEARING_PENCE = 20;
    private static final int SHEETS = 4;
    private static final int MOST_HAULED = 20;
    private static final int CELLS_OF_A_BLOCK = 3;

    private final LawReader reader = new LawReader();
    private LawBook book = new LawBook();
    private LawBook draft = new LawBook();
    private int latestFault = 0;

    private final Cliff cliff = new Cliff();
    private final Gang[] gangs = new Gang[MOST_GANGS];
    private int gangCount = 0;
    private int askCount = 0;
    private boolean monthIsLet = false;
    private int monthNumber = 0;

    private final Saw saw = new Saw();
    private int clubPence = 0;
    private int blocksWorked = 0;
    private int rubbishPlaces = 0;

    private final Sheet[] sheets = new Sheet[SHEETS];

    public SlateQuarry() {
        for (int k = 0; k < SHEETS; k++) {
            sheets[k] = new Sheet();
        }
    }

    // ---- laws

    public int feed(long v) {
        return reader.tape.append(v) ? reader.tape.length : FULL;
    }

    public int end(int n) {
        int had = reader.tape.length;
        return reader.tape.keepFirst(n) ? had : BAD;
    }

    public int laws() {
        draft.forget();
        latestFault = reader.read(draft);
        reader.tape.empty();
        if (latestFault != 0) {
            return FAULT_BASE - reader.place;
        }
        LawBook old = book;
        book = draft;
        draft = old;
        return book.total;
    }

    public int fault() {
        return latestFault;
    }

    public int law(int what) {
        if (what >= LawBook.TOP && what < LawBook.POUND) {
            return book.numberOf(what);
        }
        int goodness = what - 10;
        return Cliff.isGoodness(goodness) ? book.poundageOf(goodness) : BAD;
    }

    // ---- faces, gangs

    public int rock(int g, int c, int v) {
        Wall wall = cliff.wallAt(Cliff.indexOf(g, c));
        if (wall == null || !Cliff.isGoodness(v)) {
            return BAD;
        }
        int was = wall.goodness;
        wall.goodness = v;
        return was;
    }

    public int face(int g, int c, int what) {
        int w = Cliff.indexOf(g, c);
        Wall wall = cliff.wallAt(w);
        if (wall == null) {
            return BAD;
        }
        switch (what) {
            case 0: return wall.goodness;
            case 1: return wall.steps;
            case 2: return wall.loose ? 1 : 0;
            case 3: return cliff.mayBeWorked(w) ? 1 : 0;
            case 4: return wall.holder;
            default: return BAD;
        }
    }

    public int clear(int g, int c, int gang) {
        Wall wall = cliff.wallAt(Cliff.indexOf(g, c));
        Gang clearer = gangAt(gang);
        if (wall == null || clearer == null) {
            return BAD;
        }
        if (!wall.loose) {
            return STATE;
        }
        wall.loose = false;
        clearer.account += CLEARING_PENCE * clearer.men;
        return 1;
    }

    public int gang(int men) {
        if (men < 1 || men > MOST_MEN) {
            return BAD;
        }
        if (gangCount >= MOST_GANGS) {
            return FULL;
        }
        int number = gangCount;
        gangs[number] = new Gang(men);
        gangCount++;
        return number;
    }

    public int told(int gang, int what) {
        Gang asked = gangAt(gang);
        if (asked == null) {
            return FAR_BAD;
        }
        switch (what) {
            case 0: return asked.men;
            case 1: return asked.account;
            case 2: return asked.wallsSoFar;
            case 3: return asked.wall;
            case 4: return asked.letFor;
            case 5: return asked.blocks;
            default: return FAR_BAD;
        }
    }

    public int move(int from, int to, int n) {
        Gang giver = gangAt(from);
        Gang taker = gangAt(to);
        if (giver == null || taker == null || from == to) {
            return FAR_BAD;
        }
        if (n < 1 || n >= giver.men || n > MOST_MEN - taker.men) {
            return FAR_BAD;
        }
        if (giver.hasWall() || taker.hasWall()) {
            return FAR_STATE;
        }
        int share = giver.shareOf(n);
        giver.account -= share;
        giver.men -= n;
        taker.account += share;
        taker.men += n;
        return share;
    }

    // ---- letting

    public int ask(int gang, int g, int c, int pence) {
        Gang asker = gangAt(gang);
        int w = Cliff.indexOf(g, c);
        if (asker == null || cliff.wallAt(w) == null || pence < 0 || pence > HIGHEST_ASK) {
            return BAD;
        }
        if (monthIsLet) {
            return STATE;
        }
        if (asker.askFor(w) == NONE) {
            askCount++;
        }
        asker.setAsk(w, pence);
        return askCount;
    }

    public int let() {
        if (monthIsLet) {
            return STATE;
        }
        monthIsLet = true;
        int letWalls = 0;
        for (int w = 0; w < Cliff.WALLS; w++) {
            if (cliff.mayBeWorked(w) && letToBest(w)) {
                letWalls++;
            }
        }
        return letWalls;
    }

    public int month() {
        if (!monthIsLet) {
            return STATE;
        }
        for (int i = 0; i < gangCount; i++) {
            Gang each = gangAt(i);
            if (each != null) {
                each.endMonth();
            }
        }
        cliff.freeAll();
        askCount = 0;
        monthIsLet = false;
        monthNumber++;
        return monthNumber;
    }

    // ---- blocks

    public int size(int length, int price) {
        if (!Saw.isSlate(length, price)) {
            return BAD;
        }
        return saw.addSize(length, price);
    }

    public int most(int length, long flaws) {
        return Saw.isBlock(length, flaws) ? saw.mostOf(length, flaws) : BAD;
    }

    public int split(int length, long flaws, int i) {
        if (i < 0 || !Saw.isBlock(length, flaws)) {
            return BAD;
        }
        saw.cut(length, flaws);
        return saw.pieceAt(i);
    }

    public int work(int gang, int length, long flaws) {
        Gang worker = gangAt(gang);
        if (worker == null || !Saw.isBlock(length, flaws)) {
            return FAR_BAD;
        }
        if (!cliff.mayBeWorked(worker.wall)) {
            return FAR_STATE;
        }
        return workBlock(worker, length, flaws);
    }

    public int slates(int size) {
        return saw.hasSize(size) ? saw.slatesOf(size) : BAD;
    }

    // ---- sheets

    public int sheet(int k, int lane, int n) {
        Sheet row = sheetAt(k);
        if (row == null || !Sheet.isLane(lane) || n > Sheet.MOST_CELLS) {
            return BAD;
        }
        if (n < 0) {
            return FAULT_BASE - Sheet.SIZE_FAULT;
        }
        row.renew(lane, n);
        return 1;
    }

    public int lay(int k, int i, long v) {
        Sheet row = sheetAt(k);
        if (row == null) {
            return BAD;
        }
        if (row.isNothing()) {
            return FAULT_BASE - Sheet.NULL_FAULT;
        }
        if (!row.hasCell(i)) {
            return FAULT_BASE - Sheet.INDEX_FAULT;
        }
        row.setCell(i, v);
        return 1;
    }

    public int haul(int k, int lane, int f, int n) {
        Sheet row = sheetAt(k);
        if (row == null || !Sheet.isLane(lane) || n < 0 || n > MOST_HAULED) {
            return BAD;
        }
        if (row.isNothing()) {
            return FAULT_BASE - Sheet.NULL_FAULT;
        }
        if (row.lane != lane) {
            return FAULT_BASE - Sheet.CAST_FAULT;
        }
        for (int i = 0; i < n; i++) {
            int refusal = haulBlock(row, (long) f + CELLS_OF_A_BLOCK * i);
            if (refusal != 0) {
                return refusal;
            }
        }
        return n;
    }

    public int count(int what) {
        switch (what) {
            case 0: return gangCount;
            case 1: return saw.sizeCount;
            case 2: return monthNumber;
            case 3: return askCount;
            case 4: return cliff.heldWalls();
            case 5: return cliff.looseWalls();
            case 6: return clubPence;
            case 7: return blocksWorked;
            case 8: return rubbishPlaces;
            case 9: return book.total;
            default: return BAD;
        }
    }

    // ---- what the calls share

    private Gang gangAt(long number) {
        if (number < 0 || number >= gangCount || number >= MOST_GANGS) {
            return null;
        }
        return gangs[(int) number];
    }

    private Sheet sheetAt(int k) {
        return k < 0 || k >= SHEETS ? null : sheets[k];
    }

    private boolean letToBest(int w) {
        int best = NONE;
        for (int i = 0; i < gangCount; i++) {
            if (mayTake(gangAt(i), w) && isBetter(gangAt(i), gangAt(best), w)) {
                best = i;
            }
        }
        Gang taker = gangAt(best);
        Wall wall = cliff.wallAt(w);
        if (taker == null || wall == null) {
            return false;
        }
        taker.take(w);
        wall.holder = best;
        return true;
    }

    private boolean mayTake(Gang asker, int w) {
        return asker != null && !asker.hasWall() && asker.askFor(w) != NONE && book.letsAsk(asker.askFor(w));
    }

    // Gangs are looked at by number, so of wholly like ones the earlier stays.
    private static boolean isBetter(Gang asker, Gang best, int w) {
        if (asker == null || best == null) {
            return asker != null;
        }
        int less = Integer.compare(asker.askFor(w), best.askFor(w));
        return less < 0 || (less == 0 && asker.wallsSoFar < best.wallsSoFar);
    }

    private int workBlock(Gang worker, int length, long flaws) {
        Wall wall = cliff.wallAt(worker.wall);
        if (wall == null) {
            return FAR_STATE;
        }
        saw.cut(length, flaws);
        saw.countSlates();
        rubbishPlaces += saw.rubbish;
        blocksWorked++;
        wall.steps++;
        cliff.loosenAbove(worker.wall, book.numberOf(LawBook.HANG));

        int worth = saw.worth;
        int earned = worth + worth * book.poundageOf(wall.goodness) / 100 + worker.letFor;
        int toClub = earned * book.numberOf(LawBook.CLUB) / 100;
        clubPence += toClub;
        worker.takePay(earned - toClub, book.numberOf(LawBook.TOOL));
        return earned - toClub;
    }

    // All three cells are taken ahead of any look at what they tell.
    private int haulBlock(Sheet row, long first) {
        if (!row.hasCell(first) || !row.hasCell(first + CELLS_OF_A_BLOCK - 1)) {
            return FAULT_BASE - Sheet.INDEX_FAULT;
        }
        Gang worker = gangAt(row.cellAt(first));
        long length = row.cellAt(first + 1);
        long flaws = row.cellAt(first + 2);
        if (worker == null || !Saw.isBlock(length, flaws)) {
            return HAUL_NO_BLOCK;
        }
        if (!cliff.mayBeWorked(worker.wall)) {
            return HAUL_NOT_WORKED;
        }
        workBlock(worker, (int) length, flaws);
        return 0;
    }

    /** THE TAPE. */
    private static final class Tape {
        static final int CAPACITY = 200;
        static final int BEYOND = -1;

        private final byte[] bytes = new byte[CAPACITY];
        int length = 0;

        boolean append(long eight) {
            if (length > CAPACITY - 8) {
                return false;
            }
            for (int shift = 56; shift >= 0; shift -= 8) {
                bytes[length] = (byte) (eight >>> shift);
                length++;
            }
            return true;
        }

        boolean keepFirst(int n) {
            if (n < 0 || n > length) {
                return false;
            }
            length = n;
            return true;
        }

        void empty() {
            length = 0;
        }

        int byteAt(int place) {
            return place < 0 || place >= length || place >= CAPACITY ? BEYOND : bytes[place] & 255;
        }
    }

    /** What one text of laws tells. */
    private static final class LawBook {
        static final int TOP = 0, HANG = 1, TOOL = 2, CLUB = 3, POUND = 4;
        static final int MOST_POUNDS = 4;

        // By kinds of laws; of a pound, the bounds of its goodness.
        private static final int[] LEAST = {0, 1, 0, 0, 0};
        private static final int[] GREATEST = {9999, 20, 999, 100, 9};
        private static final int GREATEST_POUNDAGE = 300;

        private static final int[] UNTOLD = {NONE, NONE, 0, 0};

        private final int[] numbers = new int[POUND];
        private final boolean[] isTold = new boolean[POUND];
        private final int[] goodnesses = new int[MOST_POUNDS];
        private final int[] poundages = new int[MOST_POUNDS];
        private int pounds = 0;
        int total = 0;

        LawBook() {
            forget();
        }

        static String nameOf(int kind) {
            switch (kind) {
                case TOP: return "top";
                case HANG: return "hang";
                case TOOL: return "tool";
                case CLUB: return "club";
                default: return "pound";
            }
        }

        void forget() {
            for (int kind = TOP; kind < POUND; kind++) {
                numbers[kind] = UNTOLD[kind];
                isTold[kind] = false;
            }
            pounds = 0;
            total = 0;
        }

        private static boolean isNumberLaw(int kind) {
            return kind >= TOP && kind < POUND;
        }

        boolean mayTell(int kind) {
            return isNumberLaw(kind) ? !isTold[kind] : pounds < MOST_POUNDS;
        }

        static boolean isInBounds(int kind, int number) {
            return kind >= TOP && kind <= POUND && number >= LEAST[kind] && number <= GREATEST[kind];
        }

        static boolean isPoundage(int number) {
            return number >= 0 && number <= GREATEST_POUNDAGE;
        }

        boolean isAbovePounds(int goodness) {
            return pounds < 1 || pounds > MOST_POUNDS || goodness > goodnesses[pounds - 1];
        }

        void tell(int kind, int number, int poundage) {
            if (isNumberLaw(kind)) {
                numbers[kind] = number;
                isTold[kind] = true;
                total++;
            } else if (pounds < MOST_POUNDS) {
                goodnesses[pounds] = number;
                poundages[pounds] = poundage;
                pounds++;
                total++;
            }
        }

        int numberOf(int kind) {
            return isNumberLaw(kind) ? numbers[kind] : NONE;
        }

        int poundageOf(int goodness) {
            for (int i = 0; i < pounds && i < MOST_POUNDS; i++) {
                if (goodnesses[i] >= goodness) {
                    return poundages[i];
                }
            }
            return 0;
        }

        boolean letsAsk(int pence) {
            return numbers[TOP] == NONE || pence <= numbers[TOP];
        }
    }

    /** Reads the laws of its tape; each fault lies at the token that was read last. */
    private static final class LawReader {
        private static final int NO_TOKEN = 1, MISPLACED = 2, OUT_OF_BOUNDS = 3, TOO_OFTEN = 4, NOT_ABOVE = 5;
        private static final int AT_END = 0, NAME = 1, NUMBER = 2, STOP = 3;
        private static final int MOST_FIGURES = 4;
        private static final int BLANK = 32;

        final Tape tape = new Tape();
        private int next = 0;
        private int token = AT_END;
        private int value = 0;
        private int fault = 0;
        int place = 0;

        int read(LawBook into) {
            next = 0;
            fault = 0;
            readToken();
            // A law takes bytes of the tape, so it holds no more laws than bytes.
            for (int i = 0; i < Tape.CAPACITY && fault == 0 && token != AT_END; i++) {
                readLaw(into);
                readToken();
            }
            return fault;
        }

        private void readLaw(LawBook into) {
            require(token == NAME, MISPLACED);
            int kind = value;
            require(into.mayTell(kind), TOO_OFTEN);
            readToken();
            require(token == NUMBER, MISPLACED);
            int number = value;
            require(LawBook.isInBounds(kind, number), OUT_OF_BOUNDS);
            int poundage = 0;
            if (kind == LawBook.POUND) {
                require(into.isAbovePounds(number), NOT_ABOVE);
                readToken();
                require(token == NUMBER, MISPLACED);
                poundage = value;
                require(LawBook.isPoundage(poundage), OUT_OF_BOUNDS);
            }
            readToken();
            require(token == STOP, MISPLACED);
            if (fault == 0) {
                into.tell(kind, number, poundage);
            }
        }

        // Behind a fault nothing is read or looked at any more, so that the first one stays.
        private void require(boolean holds, int otherwise) {
            if (fault == 0 && !holds) {
                fault = otherwise;
            }
        }

        private void readToken() {
            if (fault != 0) {
                return;
            }
            skipBlanks();
            place = next;
            int first = tape.byteAt(next);
            if (first == Tape.BEYOND) {
                token = AT_END;
            } else if (isLetter(first)) {
                takeName();
            } else if (isFigure(first)) {
                takeNumber();
            } else {
                token = STOP;
                next++;
                require(first == ';', NO_TOKEN);
            }
        }

        private void skipBlanks() {
            for (int i = 0; i < Tape.CAPACITY && tape.byteAt(next) == BLANK; i++) {
                next++;
            }
        }

        private void takeName() {
            token = NAME;
            for (int i = 0; i < Tape.CAPACITY && isLetter(tape.byteAt(next)); i++) {
                next++;
            }
            value = NONE;
            for (int kind = LawBook.TOP; kind <= LawBook.POUND; kind++) {
                if (isTakenName(LawBook.nameOf(kind))) {
                    value = kind;
                }
            }
            require(value != NONE, NO_TOKEN);
        }

        private boolean isTakenName(String name) {
            if (next - place != name.length()) {
                return false;
            }
            for (int i = 0; i < name.length(); i++) {
                if (tape.byteAt(place + i) != name.charAt(i)) {
                    return false;
                }
            }
            return true;
        }

        private void takeNumber() {
            token = NUMBER;
            value = 0;
            for (int i = 0; i < Tape.CAPACITY && isFigure(tape.byteAt(next)); i++) {
                value = 10 * value + tape.byteAt(next) - '0';
                next++;
            }
            require(next - place <= MOST_FIGURES, NO_TOKEN);
        }

        private static boolean isLetter(int b) {
            return b >= 'a' && b <= 'z';
        }

        private static boolean isFigure(int b) {
            return b >= '0' && b <= '9';
        }
    }

    /** One WALL. */
    private static final class Wall {
        int goodness = 5;
        int steps = 0;
        boolean loose = false;
        int holder = NONE;
    }

    /** All WALLS, in the order in which they are let: by galleries from the lowest, then columns. */
    private static final class Cliff {
        static final int GALLERIES = 5, COLUMNS = 6, WALLS = GALLERIES * COLUMNS;

        private final Wall[] walls = new Wall[WALLS];

        Cliff() {
            for (int w = 0; w < WALLS; w++) {
                walls[w] = new Wall();
            }
        }

        static boolean isGoodness(int number) {
            return number >= 0 && number <= 9;
        }

        static int indexOf(int g, int c) {
            if (g < 0 || g >= GALLERIES || c < 0 || c >= COLUMNS) {
                return NONE;
            }
            return COLUMNS * g + c;
        }

        Wall wallAt(int w) {
            return w < 0 || w >= WALLS ? null : walls[w];
        }

        boolean mayBeWorked(int w) {
            if (wallAt(w) == null) {
                return false;
            }
            for (int upper = w; upper < WALLS; upper += COLUMNS) {
                if (isLoose(upper)) {
                    return false;
                }
            }
            return true;
        }

        private boolean isLoose(int w) {
            Wall wall = wallAt(w);
            return wall != null && wall.loose;
        }

        // Only the worked wall is looked at: what was cleared stays firm until a block comes below it.
        void loosenAbove(int w, int hang) {
            Wall worked = wallAt(w);
            Wall upper = wallAt(w + COLUMNS);
            if (worked == null || upper == null || hang == NONE) {
                return;
            }
            if (worked.steps - upper.steps >= hang) {
                upper.loose = true;
            }
        }

        void freeAll() {
            for (int w = 0; w < WALLS; w++) {
                Wall wall = wallAt(w);
                if (wall != null) {
                    wall.holder = NONE;
                }
            }
        }

        int heldWalls() {
            int held = 0;
            for (int w = 0; w < WALLS; w++) {
                Wall wall = wallAt(w);
                if (wall != null && wall.holder != NONE) {
                    held++;
                }
            }
            return held;
        }

        int looseWalls() {
            int loose = 0;
            for (int w = 0; w < WALLS; w++) {
                if (isLoose(w)) {
                    loose++;
                }
            }
            return loose;
        }
    }

    /** One GANG, with its ASKS of this MONTH. */
    private static final class Gang {
        private final int[] asks = new int[Cliff.WALLS];
        int men;
        int account = 0;
        int wallsSoFar = 0;
        int wall = NONE;
        int letFor = 0;
        int blocks = 0;
        private boolean hasPaidTools = false;

        Gang(int men) {
            this.men = men;
            Arrays.fill(asks, NONE);
        }

        boolean hasWall() {
            return wall != NONE;
        }

        int askFor(int w) {
            return w < 0 || w >= Cliff.WALLS ? NONE : asks[w];
        }

        void setAsk(int w, int pence) {
            if (w >= 0 && w < Cliff.WALLS) {
                asks[w] = pence;
            }
        }

        void take(int w) {
            wall = w;
            letFor = askFor(w);
            wallsSoFar++;
        }

        void endMonth() {
            Arrays.fill(asks, NONE);
            wall = NONE;
            letFor = 0;
            hasPaidTools = false;
        }

        // The account may be below 0, where a plain division would go up.
        int shareOf(int n) {
            return men < 1 ? 0 : (int) Math.floorDiv((long) account * n, (long) men);
        }

        void takePay(int pence, int toolPence) {
            account += pence;
            if (!hasPaidTools) {
                account -= toolPence * men;
                hasPaidTools = true;
            }
            blocks++;
        }
    }

    /** The SIZES, and THE SPLIT of a block into them. */
    private static final class Saw {
        private static final int MOST_SIZES = 8;
        private static final int LONGEST_SLATE = 20;
        private static final int GREATEST_PRICE = 200;
        private static final int LONGEST_BLOCK = 40;
        private static final int RUBBISH = -5;

        private final int[] lengths = new int[MOST_SIZES];
        private final int[] prices = new int[MOST_SIZES];
        private final int[] slateCounts = new int[MOST_SIZES];
        int sizeCount = 0;

        // The greatest sum of prices from a place to the end of the block that was looked at last.
        private final int[] mostFrom = new int[LONGEST_BLOCK + 1];
        private final int[] pieces = new int[LONGEST_BLOCK];
        private int pieceCount = 0;
        int rubbish = 0;
        int worth = 0;

        static boolean isSlate(int length, int price) {
            return length >= 1 && length <= LONGEST_SLATE && price >= 1 && price <= GREATEST_PRICE;
        }

        static boolean isBlock(long length, long flaws) {
            return length >= 1 && length <= LONGEST_BLOCK && flaws >>> length == 0;
        }

        int addSize(int length, int price) {
            if (sizeCount >= MOST_SIZES) {
                return FULL;
            }
            int number = sizeCount;
            lengths[number] = length;
            prices[number] = price;
            sizeCount++;
            return number;
        }

        boolean hasSize(int number) {
            return number >= 0 && number < sizeCount && number < MOST_SIZES;
        }

        int slatesOf(int number) {
            return hasSize(number) ? slateCounts[number] : 0;
        }

        int mostOf(int length, long flaws) {
            if (!isBlock(length, flaws)) {
                return 0;
            }
            mostFrom[length] = 0;
            for (int place = length - 1; place >= 0; place--) {
                int most = mostFrom[place + 1];
                for (int number = 0; number < sizeCount; number++) {
                    most = Math.max(most, mostWith(number, place, length, flaws));
                }
                mostFrom[place] = most;
            }
            return mostFrom[0];
        }

        // The greatest sum from a place on that begins with a slate of a size; below 0: it does not fit.
        private int mostWith(int number, int place, int length, long flaws) {
            if (!hasSize(number) || place < 0 || length > LONGEST_BLOCK || lengths[number] > length - place) {
                return NONE;
            }
            long covered = ((1L << lengths[number]) - 1) << place;
            return (flaws & covered) == 0 ? prices[number] + mostFrom[place + lengths[number]] : NONE;
        }

        void cut(int length, long flaws) {
            worth = mostOf(length, flaws);
            pieceCount = 0;
            rubbish = 0;
            int place = 0;
            for (int i = 0; i < LONGEST_BLOCK && place < length; i++) {
                int piece = pieceFor(place, length, flaws);
                pieces[i] = piece;
                pieceCount++;
                if (piece == RUBBISH) {
                    rubbish++;
                }
                place += hasSize(piece) ? lengths[piece] : 1;
            }
        }

        // Sizes are tried by number, rubbish behind them all.
        private int pieceFor(int place, int length, long flaws) {
            if (place < 0 || place > LONGEST_BLOCK) {
                return RUBBISH;
            }
            for (int number = 0; number < sizeCount; number++) {
                if (mostWith(number, place, length, flaws) == mostFrom[place]) {
                    return number;
                }
            }
            return RUBBISH;
        }

        int pieceAt(int i) {
            return i < 0 || i >= pieceCount || i >= LONGEST_BLOCK ? NONE : pieces[i];
        }

        void countSlates() {
            for (int i = 0; i < pieceCount; i++) {
                int piece = pieceAt(i);
                if (hasSize(piece)) {
                    slateCounts[piece]++;
                }
            }
        }
    }

    /** One SHEET: cells are held as longs, cut to their lane as they are laid. */
    private static final class Sheet {
        static final int MOST_CELLS = 60;
        static final int NULL_FAULT = 1, INDEX_FAULT = 2, CAST_FAULT = 3, SIZE_FAULT = 4;

        private static final int BYTES = 0, SHORTS = 1, LONGS = 2;

        private final long[] cells = new long[MOST_CELLS];
        private int cellCount = 0;
        int lane = NONE;

        static boolean isLane(int number) {
            return number >= BYTES && number <= LONGS;
        }

        boolean isNothing() {
            return lane == NONE;
        }

        void renew(int newLane, int n) {
            lane = newLane;
            cellCount = n;
            Arrays.fill(cells, 0L);
        }

        boolean hasCell(long i) {
            return i >= 0 && i < cellCount && i < MOST_CELLS;
        }

        void setCell(int i, long v) {
            if (hasCell(i)) {
                cells[i] = cutToLane(v);
            }
        }

        private long cutToLane(long v) {
            switch (lane) {
                case BYTES: return (byte) v;
                case SHORTS: return (short) v;
                default: return v;
            }
        }

        long cellAt(long i) {
            return hasCell(i) ? cells[(int) i] : 0;
        }
    }
}
