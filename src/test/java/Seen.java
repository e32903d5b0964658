import java.util.ArrayList;
import java.util.List;

/** All that can be seen of an object without changing it, to tell whether a call changed it. */
final class Seen {
    private static final int TRACED = 17;

    private Seen() {
    }

    /** All but status(), which a call may change even though it is refused. */
    static List<Integer> of(LavaLodger x) {
        List<Integer> seen = new ArrayList<>();
        seen.add(x.fault());
        for (int what = 0; what <= 8; what++) {
            seen.add(x.count(what));
        }
        for (int what = 0; what <= 5; what++) {
            seen.add(x.stand(what));
        }
        for (int t = 0; t < x.count(1); t++) {
            seen.add(x.kind(t));
            for (int what = 0; what <= 2; what++) {
                seen.add(x.thing(t, what));
            }
        }
        for (int r = 0; r < x.count(2); r++) {
            for (int what = 0; what <= 4; what++) {
                seen.add(x.roomOf(r, what));
            }
        }
        for (int i = 0; i < TRACED && x.trace(i) != LavaLodger.NONE; i++) {
            seen.add(x.trace(i));
        }
        return seen;
    }
}
