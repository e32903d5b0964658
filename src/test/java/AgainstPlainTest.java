import java.math.BigInteger;
import java.util.ArrayList;
import java.util.List;

/** Many streets, each walked through by acts at hazard, held against the plain street. */
public final class AgainstPlainTest {
    private static final int BAD = -1000001, STATE = -1000002, NONE = -1000000;
    private static final int STREETS = 400;
    private static final int ACTS = 14;

    private static final Due due = new Due();
    private static long seed = 20261117;

    private LavaLodger x;
    private PlainStreet s;
    private final List<PlainStreet> past = new ArrayList<>();

    public static void main(String[] args) {
        for (int k = 0; k < STREETS; k++) {
            new AgainstPlainTest().walk(k);
        }
        due.end();
    }

    // Not java.util.Random, so that the same streets come on every machine.
    private static int pick(int from, int to) {
        seed = seed * 6364136223846793005L + 1442695040888963407L;
        return from + (int) ((seed >>> 33) % (to - from + 1));
    }

    private void walk(int k) {
        String text = newStreet();
        due.about("street " + k + " " + text);
        x = Due.told(text);
        for (int act = 0; act < ACTS; act++) {
            act();
            standsAsPlain();
            foretoldAsPlain();
            if (act % 7 == 0) {
                foretoldAtTheEnds();
            }
        }
        for (int left = past.size() - 1; left >= 0; left--) {
            due.is("undo()", x.undo(), left);
            s = past.remove(left);
            standsAsPlain();
        }
        due.is("undo()", x.undo(), STATE);
    }

    private String newStreet() {
        s = new PlainStreet();
        s.feed = pick(0, 3) == 0 ? pick(0, 20) : pick(1, 9);
        s.stop = pick(0, 2) == 0 ? pick(0, 60) : pick(3, 20);
        int rooms = pick(3, 10);
        s.floor = new int[rooms];
        s.lava = new int[rooms];
        s.wall = new int[rooms];
        StringBuilder text = new StringBuilder("v" + s.feed + "," + s.stop + ";");
        boolean falls = pick(0, 1) == 0;
        for (int r = 0; r < rooms; r++) {
            s.floor[r] = falls ? Math.max(0, Math.min(9, rooms - r - 1 + pick(-1, 1))) : pick(0, 9);
            text.append("r" + s.floor[r] + ";");
        }
        int things = pick(1, 6);
        for (int t = 0; t < things; t++) {
            PlainStreet.One one = new PlainStreet.One();
            one.sort = "cltpa".charAt(pick(0, 4));
            one.room = pick(0, rooms - 1);
            one.high = pick(0, 1) == 0 ? pick(1, 9) : pick(1, 3);
            s.ones.add(one);
            text.append("" + one.sort + one.room + "," + one.high + ";");
        }
        return text.toString();
    }

    private void act() {
        PlainStreet ahead = s.twin();
        int t = pick(0, s.ones.size() - 1);
        boolean done = true;
        switch (pick(0, 5)) {
            case 0 -> {
                int w = pick(0, s.rooms() - 1);
                int v = pick(0, 9);
                due.is("wall", x.wall(w, v), s.wall[w]);
                s.wall[w] = v;
            }
            case 1 -> {
                done = s.ones.get(t).stands();
                s.carry(t);
                due.is("carry(" + t + ")", x.carry(t), done ? s.ones.get(t).where() : STATE);
            }
            case 2 -> {
                int v = pick(0, 20);
                due.is("feeding", x.feeding(v), s.feed);
                s.feed = v;
            }
            case 3 -> {
                done = s.ones.get(t).stone;
                s.ones.get(t).out |= done;
                s.ones.get(t).stone = false;
                due.is("dig(" + t + ")", x.dig(t), done ? s.stones() : STATE);
            }
            default -> {
                s.day();
                due.is("days(1)", x.days(1), s.stones());
            }
        }
        if (done) {
            past.add(ahead);
        }
    }

    private void standsAsPlain() {
        for (int r = 0; r < s.rooms(); r++) {
            due.is("floor " + r, x.roomOf(r, 0), s.floor[r]);
            due.is("lava " + r, x.roomOf(r, 1), s.lava[r]);
            due.is("wall " + r, x.roomOf(r, 2), s.wall[r]);
        }
        int[] asks = new int[2];
        for (int t = 0; t < s.ones.size(); t++) {
            PlainStreet.One one = s.ones.get(t);
            due.is("high " + t, x.thing(t, 0), one.high);
            due.is("where " + t, x.thing(t, 1), one.where());
            due.is("lava at " + t, x.thing(t, 2), one.out ? 0 : s.lava[one.room]);
            plainAsks(one, t, asks);
            due.is("ask(" + t + ", 0)", x.ask(t, 0), asks[0]);
            due.is("ask(" + t + ", 1)", x.ask(t, 1), asks[1]);
        }
        due.is("day", x.count(3), s.day);
        due.is("feed", x.stand(1), s.feed);
        due.is("who stands", x.stand(3), s.standing());
        due.is("who is stone", x.stand(4), s.stones());
        due.is("who is out", x.stand(5), s.outs());
    }

    private static void plainAsks(PlainStreet.One one, int t, int[] asks) {
        switch (one.sort) {
            case 'c' -> {
                asks[1] = t + one.room;
                asks[0] = one.high + asks[1];
            }
            case 'l' -> {
                asks[1] = 2 * (t + one.room);
                asks[0] = -(one.high + asks[1]);
            }
            case 't' -> {
                asks[1] = t + one.room - 1000;
                asks[0] = one.high + asks[1];
            }
            case 'p' -> {
                asks[0] = one.high - 100;
                asks[1] = t - asks[0];
            }
            default -> {
                asks[0] = 2 * (one.high - 100);
                asks[1] = t - asks[0];
            }
        }
    }

    // The search comes first, so that nothing of the same DAY is foretold ahead of it.
    private void foretoldAsPlain() {
        searchedAsPlain();
        int n = pick(0, 60);
        int t = pick(0, s.ones.size() - 1);
        int r = pick(0, s.rooms() - 1);
        PlainStreet later = s.twin().days(n);
        due.is("ahead(" + t + ", " + n + ")", x.ahead(t, n), later.ones.get(t).where());
        due.is("lava(" + r + ", " + n + ")", x.lava(r, n), later.lava[r]);
        due.is("kept(" + n + ", 0)", x.kept(n, 0), later.stones());
        due.is("kept(" + n + ", 1)", x.kept(n, 1), later.outs());
        due.is("front(" + n + ")", x.front(n), s.front(n));
        for (int how = 0; how < 3; how++) {
            due.is("when(" + t + ", " + how + ")", x.when(t, how), s.when(t, how));
        }
        countedAsPlain(t);
        fitsAsPlain(t, r);
    }

    private void searchedAsPlain() {
        int n = pick(0, 4) == 0 ? 4 : pick(1, 3);
        int m = pick(0, 20);
        carriedAsPlain(n, m);
        int v = pick(1, 9);
        int d = pick(1, 40);
        int[] dam = s.dam(v, d);
        due.is("dam(" + v + ", " + d + ", 0)", x.dam(v, d, 0), dam[0]);
        due.is("dam(" + v + ", " + d + ", 1)", x.dam(v, d, 1), dam[1]);
        int room = pick(0, s.rooms() - 1);
        int w = pick(0, s.rooms() - 1);
        due.is("hold(" + room + ", " + w + ", " + d + ")", x.hold(room, w, d), s.hold(room, w, d));
        due.is("spare(" + d + ")", x.spare(d), s.spare(d));
        int turns = pick(0, 4);
        m = pick(1, 20);
        due.is("byTurns(" + turns + ", " + m + ")", x.byTurns(turns, m), s.byTurns(0, turns, m));
    }

    private void carriedAsPlain(int n, int m) {
        int[] best = s.carries(n, m);
        due.is("carries(" + n + ", " + m + ", -1)", x.carries(n, m, -1), best[0]);
        for (int k = 0; k < n; k++) {
            due.is("carries(" + n + ", " + m + ", " + k + ")", x.carries(n, m, k),
                    best[k + 1] < 0 ? NONE : best[k + 1]);
        }
        due.is("carries(" + n + ", " + m + ", n)", x.carries(n, m, n), NONE);
    }

    private void givenAsPlain(int t, int d, int p) {
        BigInteger above = BigInteger.valueOf(s.spared(t, d, p, 0));
        BigInteger below = BigInteger.valueOf(s.cases());
        BigInteger both = above.gcd(below);
        String call = "gives(" + t + ", " + d + ", " + p + ", ";
        due.is(call + "0)", x.gives(t, d, p, 0), above.divide(both).longValue());
        due.is(call + "1)", x.gives(t, d, p, 1), below.divide(both).longValue());
    }

    // At hazard the ends of a range come seldom, and they are where it would go wrong.
    private void foretoldAtTheEnds() {
        PlainStreet later = s.twin().days(60);
        for (int t = 0; t < s.ones.size(); t++) {
            due.is("ahead(" + t + ", 0)", x.ahead(t, 0), s.ones.get(t).where());
            due.is("ahead(" + t + ", 60)", x.ahead(t, 60), later.ones.get(t).where());
            givenAsPlain(t, 40, 0);
            givenAsPlain(t, 40, 10);
            givenAsPlain(t, 0, pick(0, 10));
        }
        for (int r = 0; r < s.rooms(); r++) {
            due.is("lava(" + r + ", 60)", x.lava(r, 60), later.lava[r]);
            for (int w = 0; w < s.rooms(); w++) {
                due.is("hold(" + r + ", " + w + ", 40)", x.hold(r, w, 40), s.hold(r, w, 40));
                due.is("hold(" + r + ", " + w + ", 1)", x.hold(r, w, 1), s.hold(r, w, 1));
            }
        }
        due.is("kept(60, 0)", x.kept(60, 0), later.stones());
        due.is("kept(60, 1)", x.kept(60, 1), later.outs());
        due.is("front(60)", x.front(60), s.front(60));
        due.is("spare(40)", x.spare(40), s.spare(40));
        due.is("spare(1)", x.spare(1), s.spare(1));
        due.is("byTurns(4, 20)", x.byTurns(4, 20), s.byTurns(0, 4, 20));
        due.is("byTurns(0, 1)", x.byTurns(0, 1), s.byTurns(0, 0, 1));
        for (int v = 1; v <= 9; v += 8) {
            due.is("dam(" + v + ", 40, 0)", x.dam(v, 40, 0), s.dam(v, 40)[0]);
            due.is("dam(" + v + ", 40, 1)", x.dam(v, 40, 1), s.dam(v, 40)[1]);
        }
        for (int x0 = 1; x0 <= 999999; x0 += 999998) {
            int[] became = s.drawn(60, x0);
            due.is("drawn(60, " + x0 + ", 0)", x.drawn(60, x0, 0), became[0]);
            due.is("drawn(60, " + x0 + ", 1)", x.drawn(60, x0, 1), became[1]);
        }
        carriedAsPlain(4, 20);
        carriedAsPlain(1, 0);
    }

    private void countedAsPlain(int t) {
        int v = pick(0, 3) == 0 ? pick(0, 54) : pick(0, 15);
        int[] sets = s.sets(v);
        for (int what = 0; what < 3; what++) {
            due.is("sets(" + v + ", " + what + ")", x.sets(v, what), sets[what]);
        }
        int n = pick(0, 999);
        int[] parts = s.share(n);
        for (int one = 0; one < parts.length; one++) {
            due.is("share(" + one + ", " + n + ")", x.share(one, n), parts[one]);
        }
        givenAsPlain(t, pick(0, 40), pick(0, 10));
        int years = pick(0, 60);
        int x0 = pick(1, 999999);
        int[] became = s.drawn(years, x0);
        due.is("drawn(" + years + ", " + x0 + ", 0)", x.drawn(years, x0, 0), became[0]);
        due.is("drawn(" + years + ", " + x0 + ", 1)", x.drawn(years, x0, 1), became[1]);
    }

    // Rows that something fits are rare at hazard, so most tell what another one would do.
    private void fitsAsPlain(int t, int r) {
        int n = pick(1, 12);
        int i = pick(0, 40 - n);
        x.row(1, 1, 40);
        x.row(2, 2, 40);
        PlainStreet other = s.twin();
        PlainStreet.One one = other.ones.get(t);
        switch (pick(0, 4)) {
            case 0 -> one.sort = "cltpa".charAt(pick(0, 4));
            case 1 -> one.high = pick(1, 9);
            case 2 -> one.room = pick(0, s.rooms() - 1);
            case 3 -> other.floor[r] = pick(0, 9);
            default -> other.feed = pick(0, 20);
        }
        int[] places = new int[n];
        int[] much = new int[n];
        for (int d = 0; d < n; d++) {
            other.day();
            places[d] = pick(0, 60) == 0 ? pick(0, 40) : one.where();
            much[d] = pick(0, 60) == 0 ? pick(-1, 20) : other.lava[r];
            x.set(1, i + d, places[d]);
            x.set(2, i + d, much[d]);
        }
        for (int which = 0; which < 3; which++) {
            due.is("who(" + t + ", " + which + ")", x.who(t, which, 1, i, n),
                    s.ones.get(t).stands() ? s.who(t, which, places) : STATE);
        }
        List<Integer> fit = s.feeds(r, much);
        due.is("feeds(" + r + ", 0)", x.feeds(r, 0, 2, i, n), s.floors(r, much));
        due.is("feeds(" + r + ", 1)", x.feeds(r, 1, 2, i, n), fit.size());
        due.is("feeds(" + r + ", 2)", x.feeds(r, 2, 2, i, n), fit.isEmpty() ? NONE : fit.get(0));
        due.is("feeds(rooms, 0)", x.feeds(s.rooms(), 0, 2, i, n), BAD);
    }
}
