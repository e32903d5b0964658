import java.util.ArrayList;
import java.util.List;

/**
 * The document's street once more, in the plainest way and apart from the class: everything is
 * tried on whole copies, so that what the class finds by shorter ways can be held against it.
 */
final class PlainStreet {
    static final int NONE = -1000000;

    /** One that goes on ahead of the lava. */
    static final class One {
        char sort;
        int room;
        int high;
        boolean out;
        boolean stone;

        One twin() {
            One one = new One();
            one.sort = sort;
            one.room = room;
            one.high = high;
            one.out = out;
            one.stone = stone;
            return one;
        }

        boolean stands() {
            return !out && !stone;
        }

        int where() {
            return out ? 20 : stone ? 30 + room : room;
        }
    }

    int feed;
    int stop;
    int day;
    int[] floor;
    int[] lava;
    int[] wall;
    final List<One> ones = new ArrayList<>();

    PlainStreet twin() {
        PlainStreet s = new PlainStreet();
        s.feed = feed;
        s.stop = stop;
        s.day = day;
        s.floor = floor.clone();
        s.lava = lava.clone();
        s.wall = wall.clone();
        for (One one : ones) {
            s.ones.add(one.twin());
        }
        return s;
    }

    int rooms() {
        return floor.length;
    }

    private int level(int room) {
        return room == rooms() ? 0 : floor[room] + lava[room];
    }

    private boolean wet(int room) {
        return room >= 0 && lava[room] > 0;
    }

    void day() {
        if (day < stop) {
            lava[0] += feed;
        }
        for (int k = 0; k < rooms(); k++) {
            int above = level(k) - wall[k] - level(k + 1);
            if (above < 2) {
                continue;
            }
            int half = above / 2;
            int goes = half > lava[k] ? lava[k] : half;
            lava[k] -= goes;
            if (k + 1 < rooms()) {
                lava[k + 1] += goes;
            }
        }
        for (One one : ones) {
            if (one.stands()) {
                goOn(one, pace(one));
            }
        }
        for (One one : ones) {
            if (one.stands() && lava[one.room] >= one.high) {
                one.stone = true;
            }
        }
        day++;
    }

    private int pace(One one) {
        boolean own = wet(one.room);
        boolean near = own || wet(one.room - 1);
        boolean far = near || wet(one.room - 2);
        return switch (one.sort) {
            case 'c' -> near ? 1 : 0;
            case 'l' -> own ? 2 : 0;
            case 't' -> near && day % 2 == 0 ? 1 : 0;
            case 'p' -> far ? 1 : 0;
            default -> own ? 2 : far ? 1 : 0;
        };
    }

    private void goOn(One one, int by) {
        if (one.room + by >= rooms()) {
            one.out = true;
        } else {
            one.room += by;
        }
    }

    PlainStreet days(int n) {
        for (int d = 0; d < n; d++) {
            day();
        }
        return this;
    }

    void carry(int thing) {
        if (ones.get(thing).stands()) {
            goOn(ones.get(thing), 1);
        }
    }

    int stones() {
        int bits = 0;
        for (int t = 0; t < ones.size(); t++) {
            bits |= ones.get(t).stone ? 1 << t : 0;
        }
        return bits;
    }

    int outs() {
        int bits = 0;
        for (int t = 0; t < ones.size(); t++) {
            bits |= ones.get(t).out ? 1 << t : 0;
        }
        return bits;
    }

    int standing() {
        return (1 << ones.size()) - 1 - stones() - outs();
    }

    int howManyStones() {
        return Integer.bitCount(stones());
    }

    int when(int thing, int how) {
        PlainStreet s = twin();
        for (int n = 0; n <= 60; n++) {
            One one = s.ones.get(thing);
            boolean is = switch (how) {
                case 0 -> one.stone || one.stands() && s.lava[one.room] > 0;
                case 1 -> one.stone;
                default -> one.out;
            };
            if (is) {
                return n;
            }
            s.day();
        }
        return NONE;
    }

    int front(int n) {
        PlainStreet s = twin().days(n);
        int last = NONE;
        for (int r = 0; r < rooms(); r++) {
            last = s.lava[r] > 0 ? r : last;
        }
        return last;
    }

    /** How many are stone by the best row, then the row itself (-1: none). */
    int[] carries(int n, int m) {
        int[] best = new int[n + 1];
        best[0] = 99;
        carriesFrom(this, new int[n], 0, m, best);
        return best;
    }

    private static void carriesFrom(PlainStreet s, int[] row, int k, int m, int[] best) {
        if (k == row.length) {
            int stones = s.twin().days(m).howManyStones();
            if (stones < best[0]) {
                best[0] = stones;
                System.arraycopy(row, 0, best, 1, row.length);
            }
            return;
        }
        for (int choice = 0; choice <= s.ones.size(); choice++) {
            PlainStreet next = s.twin();
            if (choice < s.ones.size()) {
                next.carry(choice);
            }
            next.day();
            row[k] = choice < s.ones.size() ? choice : -1;
            carriesFrom(next, row, k + 1, m, best);
        }
    }

    int[] dam(int v, int n) {
        int[] best = {NONE, 99};
        for (int w = 0; w < rooms(); w++) {
            PlainStreet s = twin();
            s.wall[w] = v;
            int stones = s.days(n).howManyStones();
            if (stones < best[1]) {
                best = new int[] {w, stones};
            }
        }
        return best;
    }

    int hold(int room, int w, int n) {
        for (int v = 0; v <= 9; v++) {
            PlainStreet s = twin();
            s.wall[w] = v;
            if (s.days(n).lava[room] == 0) {
                return v;
            }
        }
        return NONE;
    }

    int spare(int n) {
        int most = NONE;
        for (int v = 0; v <= 20; v++) {
            PlainStreet s = twin();
            s.feed = v;
            most = (s.days(n).stones() & ~stones()) == 0 ? v : most;
        }
        return most;
    }

    int[] sets(int v) {
        int[] tells = {0, -1, 0};
        for (int set = 0; set < 64; set++) {
            int high = 0;
            boolean stand = set < 1 << ones.size();
            for (int t = 0; t < ones.size() && stand; t++) {
                if ((set & 1 << t) != 0) {
                    stand = ones.get(t).stands();
                    high += ones.get(t).high;
                }
            }
            if (stand && high == v) {
                tells[0]++;
                tells[1] &= set;
                tells[2] |= set;
            }
        }
        tells[1] = tells[0] == 0 ? 0 : tells[1];
        return tells;
    }

    int[] share(int n) {
        int[] parts = new int[ones.size()];
        int all = 0;
        for (One one : ones) {
            all += one.out ? one.high : 0;
        }
        if (all == 0) {
            return parts;
        }
        int left = n;
        for (int t = 0; t < parts.length; t++) {
            parts[t] = ones.get(t).out ? n * ones.get(t).high / all : 0;
            left -= parts[t];
        }
        for (int t = 0; t < parts.length && left > 0; t++) {
            if (ones.get(t).out) {
                parts[t]++;
                left--;
            }
        }
        return parts;
    }

    int byTurns(int turn, int n, int m) {
        if (turn == n) {
            return twin().days(m).howManyStones();
        }
        int best = twin().byTurns(turn + 1, n, m);
        if (turn % 2 == 1) {
            PlainStreet s = twin();
            s.feed = Math.min(20, feed + 3);
            return Math.max(best, s.byTurns(turn + 1, n, m));
        }
        for (int t = 0; t < ones.size(); t++) {
            if (ones.get(t).stands()) {
                PlainStreet s = twin();
                s.carry(t);
                best = Math.min(best, s.byTurns(turn + 1, n, m));
            }
        }
        return best;
    }

    private boolean goesSo(int thing, int[] row) {
        for (int place : row) {
            day();
            if (ones.get(thing).where() != place) {
                return false;
            }
        }
        return true;
    }

    private boolean liesSo(int room, int[] row) {
        for (int much : row) {
            day();
            if (lava[room] != much) {
                return false;
            }
        }
        return true;
    }

    int who(int thing, int which, int[] row) {
        int bits = 0;
        int from = which == 2 ? 0 : 1;
        int to = which == 0 ? 5 : which == 1 ? 9 : rooms() - 1;
        for (int k = from; k <= to; k++) {
            PlainStreet s = twin();
            One one = s.ones.get(thing);
            if (which == 0) {
                one.sort = " cltpa".charAt(k);
            } else if (which == 1) {
                one.high = k;
            } else {
                one.room = k;
            }
            bits |= s.goesSo(thing, row) ? 1 << k : 0;
        }
        return bits;
    }

    int floors(int room, int[] row) {
        int bits = 0;
        for (int f = 0; f <= 9; f++) {
            PlainStreet s = twin();
            s.floor[room] = f;
            bits |= s.liesSo(room, row) ? 1 << f : 0;
        }
        return bits;
    }

    List<Integer> feeds(int room, int[] row) {
        List<Integer> fit = new ArrayList<>();
        for (int f = 0; f <= 20; f++) {
            PlainStreet s = twin();
            s.feed = f;
            if (s.liesSo(room, row)) {
                fit.add(f);
            }
        }
        return fit;
    }

    /** Cases of 10 to the power of how many walls stand. */
    long spared(int thing, int n, int p, int w) {
        if (w == rooms()) {
            return twin().days(n).ones.get(thing).stone ? 0 : 1;
        }
        if (wall[w] == 0) {
            return spared(thing, n, p, w + 1);
        }
        PlainStreet s = twin();
        s.wall[w] = 0;
        return p * s.spared(thing, n, p, w + 1) + (10 - p) * spared(thing, n, p, w + 1);
    }

    long cases() {
        long all = 1;
        for (int w : wall) {
            all *= w == 0 ? 1 : 10;
        }
        return all;
    }

    int[] drawn(int n, int seed) {
        PlainStreet s = twin();
        int[] became = {0, 0};
        long x = seed;
        for (int d = 0; d < n; d++) {
            x = x * 16807 % 2147483647;
            if (x % 3 == 0) {
                s.feed = (int) (x % 10);
            }
            One one = s.ones.get((int) (x % s.ones.size()));
            if (!one.stands()) {
                one.out = false;
                one.stone = false;
                one.room = (int) (x % s.rooms());
            }
            PlainStreet ahead = s.twin();
            s.day();
            became[0] += Integer.bitCount(s.stones() & ~ahead.stones());
            became[1] += Integer.bitCount(s.outs() & ~ahead.outs());
        }
        return became;
    }
}
