import java.util.ArrayList;
import java.util.List;
import java.util.function.Consumer;
import java.util.function.ToIntFunction;

/**
 * "What is refused changes nothing": two objects of one past, one of which is refused a call, must
 * answer all later calls alike. A past of 150 calls leaves room below the object's 512.
 */
final class Refused {
    private Refused() {
    }

    static void is(String what, Consumer<SlateQuarry> past, ToIntFunction<SlateQuarry> call, int due) {
        SlateQuarry x = new SlateQuarry();
        SlateQuarry twin = new SlateQuarry();
        past.accept(x);
        past.accept(twin);
        Due.is(what, call.applyAsInt(x), due);
        Due.holds(what + " changes nothing", sight(x).equals(sight(twin)));
    }

    /** Calls that only look must leave the object as it was, too. */
    static void changesNothing(String what, Consumer<SlateQuarry> past, ToIntFunction<SlateQuarry> call) {
        SlateQuarry twin = new SlateQuarry();
        past.accept(twin);
        is(what, past, call, call.applyAsInt(twin));
    }

    private static List<Integer> sight(SlateQuarry x) {
        List<Integer> seen = new ArrayList<>();
        seen.add(x.fault());
        counts(x, seen);
        told(x, seen, 0, 5);
        for (int w = 0; w < 30; w++) {
            for (int what = 0; what <= 4; what++) {
                seen.add(x.face(w / 6, w % 6, what));
            }
        }
        laws(x, seen);
        tape(x, seen);
        asks(x, seen);
        sheets(x, seen);
        return seen;
    }

    private static void counts(SlateQuarry x, List<Integer> seen) {
        for (int what = 0; what <= 9; what++) {
            seen.add(x.count(what));
        }
        for (int size = 0; size < 8; size++) {
            seen.add(x.slates(size));
        }
        seen.add(x.most(40, 1L << 13));
        for (int i = 0; i < 8; i++) {
            seen.add(x.split(40, 1L << 13, i));
        }
    }

    private static void told(SlateQuarry x, List<Integer> seen, int least, int greatest) {
        for (int gang = 0; gang < 8; gang++) {
            for (int what = least; what <= greatest; what++) {
                seen.add(x.told(gang, what));
            }
        }
    }

    private static void laws(SlateQuarry x, List<Integer> seen) {
        for (int what = 0; what < 20; what += what == 3 ? 7 : 1) {
            seen.add(x.law(what));
        }
    }

    /** What can be seen of the tape: its length, and what it tells. */
    private static void tape(SlateQuarry x, List<Integer> seen) {
        seen.add(x.end(200));
        seen.add(x.feed(Due.eight("")));
        seen.add(x.laws());
        seen.add(x.fault());
        laws(x, seen);
        seen.add(x.end(0));
    }

    /** What can be seen of asks: who takes which wall for what. */
    private static void asks(SlateQuarry x, List<Integer> seen) {
        seen.add(x.let());
        told(x, seen, 3, 4);
    }

    /** What can be seen of sheets: the lane, how many cells, and what hauls of them do. */
    private static void sheets(SlateQuarry x, List<Integer> seen) {
        for (int k = 0; k < 4; k++) {
            for (int lane = 0; lane < 3; lane++) {
                seen.add(x.haul(k, lane, 0, 1));
                seen.add(x.haul(k, lane, 0, 20));
            }
            seen.add(x.count(7));
        }
        counts(x, seen);
        told(x, seen, 1, 1);
        seen.add(x.month());
    }
}
