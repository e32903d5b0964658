/**
 * The boundary cases that the Terms name for ROWS, THE TAPE, the DAY and the ACTS, each under the
 * sentence of the document that names it; what is due was worked out by hand.
 */
public final class StreetEdgesTest {
    private static final int NONE = -1000000, BAD = -1000001, STATE = -1000002, FULL = -1000003;
    private static final int NULL = -1000011, PLACE = -1000012;
    private static final int TOO_BIG = Integer.MAX_VALUE, TOO_SMALL = Integer.MIN_VALUE;
    private static final int OUT = 20, STONE = 30;
    private static final String SORTS = "cltpa";

    private static final Due due = new Due();

    public static void main(String[] args) {
        newObject();
        rows();
        copies();
        tape();
        readAnew();
        fed();
        flows();
        oneBehindTheOther();
        road();
        whoGoes();
        tablesByDays();
        outBeyondTheLast();
        keptInStone();
        acts();
        lastCalls();
        due.end();
    }

    private static LavaLodger flat(String sorts) {
        return Due.told("v0,60;r0;r0;r0;" + sorts);
    }

    private static void lies(String when, LavaLodger x, int... lava) {
        for (int r = 0; r < lava.length; r++) {
            due.is(when + ", lava of room " + r, x.roomOf(r, 1), lava[r]);
        }
    }

    // ---- ROWS

    private static void newObject() {
        due.says("`LavaLodger()`: No STREET.");
        LavaLodger x = new LavaLodger();
        due.is("no street", x.stand(0), STATE);
        for (int what = 0; what <= 8; what++) {
            due.is("count(" + what + ")", x.count(what), 0);
        }
        due.says("The number of the latest FAULT; 0 before one.");
        due.is("no fault yet", x.fault(), 0);
        due.says("0: it had none, or there was none.");
        due.is("no finding yet", x.status(), 0);
    }

    private static void rows() {
        due.says("ROWS 0 .. 7 are missing (at first), or have a LANE (0 bytes, 1 shorts, 2 ints)");
        LavaLodger x = new LavaLodger();
        for (int row = 0; row < 8; row++) {
            due.is("row " + row + " is missing", x.drop(row), NULL);
            due.is("and has no item", x.set(row, 0, 0), NULL);
        }
        due.says("and 0 to 40 ITEMS, 0 at first.");
        LavaLodger read = readable();
        for (int row = 0; row < 8; row++) {
            due.is("row(" + row + ", .., 40)", read.row(row, row % 3, 40), 40);
        }
        due.is("eight rows", read.count(0), 8);
        for (int i = 0; i < 40; i++) {
            due.is("item " + i + " of bytes", item(read, 0, i), 0);
            due.is("item " + i + " of shorts", item(read, 1, i), 0);
            due.is("item " + i + " of ints", item(read, 2, i), 0);
        }
        due.is("the last place", read.set(7, 39, 1), 1);
        due.is("beyond it", read.set(7, 40, 1), PLACE);
        due.is("a row without items", read.row(7, 1, 0), 0);
        due.is("has no place", read.set(7, 0, 1), PLACE);
        due.is("but is one", read.count(0), 8);
        due.is("and had none", read.drop(7), 0);
        due.is("it is missing then", read.count(0), 7);
        inPlace();
        lanes();
    }

    private static void inPlace() {
        due.says("A ROW of a LANE with n ITEMS, in place of what is there: n.");
        LavaLodger x = readable();
        x.row(0, 2, 40);
        x.set(0, 0, 3);
        x.set(0, 39, 4);
        due.is("of the same lane", x.row(0, 2, 40), 40);
        due.is("its first item is 0", item(x, 0, 0), 0);
        due.is("its last item is 0", item(x, 0, 39), 0);
        x.set(0, 1, 5);
        x.row(0, 2, 1);
        x.row(0, 2, 2);
        due.is("what was cut off is gone", item(x, 0, 1), 0);
        x.set(0, 1, 6);
        x.drop(0);
        x.row(0, 2, 2);
        due.is("what was dropped is gone", item(x, 0, 1), 0);
        due.is("one row", x.count(0), 1);
    }

    private static void lanes() {
        due.says("ITEM i becomes v, its lowest bits, as many as the LANE has: what it is then.");
        int[][] bytes = {{127, 127}, {128, -128}, {255, -1}, {256, 0}, {-128, -128}, {-129, 127},
            {383, 127}, {TOO_BIG, -1}, {TOO_SMALL, 0}};
        int[][] shorts = {{32767, 32767}, {32768, -32768}, {65535, -1}, {65536, 0},
            {-32768, -32768}, {-32769, 32767}, {128, 128}, {TOO_BIG, -1}, {TOO_SMALL, 0}};
        int[][] ints = {{TOO_BIG, TOO_BIG}, {TOO_SMALL, TOO_SMALL}, {65536, 65536}, {-1, -1}};
        lane(0, bytes);
        lane(1, shorts);
        lane(2, ints);
    }

    private static void lane(int lane, int[][] values) {
        LavaLodger x = readable();
        x.row(0, lane, 40);
        for (int[] v : values) {
            due.is("lane " + lane + ", " + v[0], x.set(0, 39, v[0]), v[1]);
        }
        x.set(0, 0, 7);
        x.set(0, 2, 9);
        due.is("lane " + lane + ", item 1", x.set(0, 1, 1 << 8 * (lane + 1) | 8), ofLane(lane));
        due.is("the one ahead of it stays", item(x, 0, 0), 7);
        due.is("it is that then", item(x, 0, 1), lane == 2 ? NONE : 8);
        due.is("the one behind it stays", item(x, 0, 2), 9);
    }

    // 1 << 24 | 8 is no more than an int has, so nothing of it is cut there, and no FEED fits it.
    private static int ofLane(int lane) {
        return lane == 2 ? 1 << 24 | 8 : 8;
    }

    // Behind a WALL of 9 what lies in ROOM 0 behind a DAY is FEED itself, up to 10, so the least
    // FEED that fits tells the ITEM.
    private static LavaLodger readable() {
        LavaLodger x = Due.told("v9,60;r0;r0;r0;c0,9;");
        x.wall(0, 9);
        return x;
    }

    private static int item(LavaLodger x, int row, int i) {
        return x.feeds(0, 2, row, i, 1);
    }

    private static void copies() {
        due.says("n ITEMS of a from i on come to b from j on, as they were ahead: n.");
        copiesTo("up by one", 0, 1, 7, new int[] {0, 0, 1, 2, 3, 4, 5, 6});
        copiesTo("down by one", 1, 0, 7, new int[] {1, 2, 3, 4, 5, 6, 7, 7});
        copiesTo("up by three", 0, 3, 5, new int[] {0, 1, 2, 0, 1, 2, 3, 4});
        copiesTo("down by three", 3, 0, 5, new int[] {3, 4, 5, 6, 7, 5, 6, 7});
        copiesTo("onto its own place", 2, 2, 6, new int[] {0, 1, 2, 3, 4, 5, 6, 7});
        copiesTo("all of it", 0, 0, 8, new int[] {0, 1, 2, 3, 4, 5, 6, 7});
        copiesTo("none", 0, 4, 0, new int[] {0, 1, 2, 3, 4, 5, 6, 7});
        copiesTo("none, at the end", 8, 8, 0, new int[] {0, 1, 2, 3, 4, 5, 6, 7});
        copiesTo("the last to the first", 7, 0, 1, new int[] {7, 1, 2, 3, 4, 5, 6, 7});
        copiesTo("the first to the last", 0, 7, 1, new int[] {0, 1, 2, 3, 4, 5, 6, 0});
        due.says("PLACE (i, j, n below 0, or beyond an end)");
        LavaLodger x = new LavaLodger();
        x.row(0, 0, 40);
        x.row(1, 0, 40);
        x.row(2, 0, 0);
        due.is("all 40", x.copy(0, 0, 1, 0, 40), 40);
        due.is("41", x.copy(0, 0, 1, 0, 41), PLACE);
        due.is("40 from 1", x.copy(0, 1, 1, 0, 40), PLACE);
        due.is("40 to 1", x.copy(0, 0, 1, 1, 40), PLACE);
        due.is("39 from 1 to 1", x.copy(0, 1, 1, 1, 39), 39);
        due.is("none from 40 to 40", x.copy(0, 40, 1, 40, 0), 0);
        due.is("none from 41", x.copy(0, 41, 1, 40, 0), PLACE);
        due.is("none to 41", x.copy(0, 40, 1, 41, 0), PLACE);
        due.is("1 from 40", x.copy(0, 40, 1, 0, 1), PLACE);
        due.is("1 to 40", x.copy(0, 0, 1, 40, 1), PLACE);
        due.is("none of none", x.copy(2, 0, 2, 0, 0), 0);
        due.is("1 of none", x.copy(2, 0, 0, 0, 1), PLACE);
        for (int v : new int[] {-1, TOO_SMALL, TOO_BIG}) {
            due.is("i " + v, x.copy(0, v, 1, 0, 1), PLACE);
            due.is("j " + v, x.copy(0, 0, 1, v, 1), PLACE);
            due.is("n " + v, x.copy(0, 0, 1, 0, v), PLACE);
            due.is("i and n " + v, x.copy(0, v, 1, 0, v), PLACE);
            due.is("j and n " + v, x.copy(0, 0, 1, v, v), PLACE);
            due.is("i, j and n " + v, x.copy(0, v, 1, v, v), PLACE);
        }
    }

    private static void copiesTo(String what, int i, int j, int n, int[] then) {
        LavaLodger x = readable();
        x.row(5, 1, 8);
        for (int k = 0; k < 8; k++) {
            x.set(5, k, k);
        }
        due.is(what, x.copy(5, i, 5, j, n), n);
        for (int k = 0; k < 8; k++) {
            due.is(what + ", item " + k, item(x, 5, k), then[k]);
        }
    }

    // ---- THE TAPE

    private static void tape() {
        due.says("THE TAPE has at most 90 bytes, that come one by one");
        LavaLodger x = new LavaLodger();
        for (int i = 1; i <= 90; i++) {
            due.is("byte " + i, x.feed(i % 256), i);
        }
        due.is("byte 91", x.feed(0), FULL);
        due.is("90 on it", x.count(8), 90);
        due.is("refused as it is read", x.street(), -1000100);
        due.is("empty then", x.count(8), 0);
        due.is("there is room again", x.feed('v'), 1);
        // No STREET is longer than 89 bytes: each NUMBER of two figures, all ROOMS, all THINGS.
        String longest = "v20,60;r09;r08;r07;r06;r05;r04;r03;r02;r01;r00;"
                + "c09,09;l08,08;t07,07;p06,06;a05,05;c04,04;";
        due.is("its bytes", longest.length(), 89);
        due.is("the longest", Due.tell(new LavaLodger(), longest), 6);
        tooLong(longest, ";", 1);
        tooLong(longest, "c", 3);
        tooLong(longest, "r", 1);
        tooLong(longest, "0", 1);
        due.says("NUMBERS (figures, 2 at most)");
        due.is("the shortest", Due.tell(new LavaLodger(), "v0,0;r0;r0;r0;c0,1;"), 1);
    }

    private static void tooLong(String text, String more, int number) {
        LavaLodger x = new LavaLodger();
        due.is("and " + more + " more", Due.tell(x, text + more), -1000100 - 89);
        due.is("and " + more + " more, the fault", x.fault(), number);
    }

    private static void readAnew() {
        due.says("A STREET that is read stands in place of the one before (none at first): DAY 0, no "
                + "LAVA, no WALLS (0), all THINGS stand in their ROOMS; no ACT can be undone.");
        LavaLodger x = Due.told("v20,60;r9;r8;r7;r6;r5;r4;r3;r2;r1;r0;c0,1;c1,1;c2,1;c3,1;c9,9;");
        for (int w = 0; w < 10; w++) {
            x.wall(w, 9 - w);
        }
        x.days(9);
        Due.tell(x, "v1,0;r0;r0;r0;r0;r0;r0;r0;r0;r0;r0;l0,9;l9,8;");
        due.is("day", x.count(3), 0);
        due.is("lava", x.count(4), 0);
        due.is("acts", x.count(7), 0);
        due.is("undo()", x.undo(), STATE);
        due.is("things", x.count(1), 2);
        due.is("no third", x.kind(2), BAD);
        due.is("who stands", x.stand(3), 3);
        due.is("nobody is stone", x.count(5), 0);
        due.is("nobody is out", x.count(6), 0);
        due.is("the first", x.thing(0, 1), 0);
        due.is("the second", x.thing(1, 1), 9);
        for (int r = 0; r < 10; r++) {
            due.is("lava of room " + r, x.roomOf(r, 1), 0);
            due.is("wall " + r, x.roomOf(r, 2), 0);
            due.is("floor " + r, x.roomOf(r, 0), 0);
        }
        due.is("fewer rooms", Due.tell(x, "v1,0;r1;r2;r3;a2,1;"), 1);
        due.is("no fourth room", x.roomOf(3, 0), BAD);
        due.is("three", x.stand(0), 3);
    }

    // ---- a DAY

    private static void fed() {
        due.says("1 if DAY is below STOP, LAVA of ROOM 0 is FEED more.");
        LavaLodger never = Due.told("v1,0;r0;r0;r0;c2,9;");
        never.days(1);
        due.is("STOP 0", never.count(4), 0);
        LavaLodger once = Due.told("v1,1;r0;r0;r0;c2,9;");
        once.days(1);
        due.is("STOP 1, day 0", once.count(4), 1);
        once.days(1);
        due.is("STOP 1, day 1", once.count(4), 1);
        LavaLodger late = flat("c2,9;");
        late.days(24);
        late.days(24);
        late.days(10);
        late.feeding(1);
        late.days(1);
        due.is("STOP 60, day 58", late.count(4), 1);
        late.days(1);
        due.is("STOP 60, day 59", late.count(4), 2);
        late.days(1);
        due.is("STOP 60, day 60", late.count(4), 2);
        late.feeding(20);
        due.is("STOP 60, foretold", late.lava(0, 60) + late.lava(1, 60) + late.lava(2, 60), 2);
    }

    private static void flows() {
        due.says("if its LEVEL, less its WALL, is 2 or more above that of the next one (of THE ROAD), "
                + "half of that (cut), no more than its LAVA, goes on there.");
        flow("1 above", 1, 0, 1, 0, 0);
        flow("2 above", 2, 0, 1, 1, 0);
        flow("3 above", 3, 0, 2, 1, 0);
        flow("4 above, and on the same day on from there", 4, 0, 2, 1, 1);
        flow("5 above", 5, 0, 3, 1, 1);
        flow("4 less a wall of 1", 4, 1, 3, 1, 0);
        flow("4 less a wall of 2", 4, 2, 3, 1, 0);
        flow("4 less a wall of 3", 4, 3, 4, 0, 0);
        flow("10 less a wall of 8", 10, 8, 9, 1, 0);
        flow("10 less a wall of 9", 10, 9, 10, 0, 0);
        flow("11 less a wall of 9", 11, 9, 10, 1, 0);
        LavaLodger up = Due.told("v9,60;r0;r9;r0;c2,9;");
        up.days(1);
        lies("up to a floor of 9", up, 9, 0, 0);
        up.days(1);
        lies("over a floor of 9, from which all of the 4 go on, and 2 of them out", up, 14, 0, 2);
        LavaLodger step = Due.told("v1,60;r9;r0;r0;c2,9;");
        step.days(1);
        lies("no more than its lava", step, 0, 1, 0);
        LavaLodger dry = Due.told("v0,60;r9;r0;r0;c2,9;");
        dry.days(1);
        lies("without lava nothing goes on", dry, 0, 0, 0);
    }

    private static void oneBehindTheOther() {
        due.says("2 from ROOM 0 on, one behind the other:");
        // What comes to a ROOM goes on from it on the same DAY, down to THE ROAD.
        LavaLodger down = Due.told("v1,1;r9;r7;r5;r3;c0,9;");
        down.days(1);
        due.is("1 has gone all the way", down.count(4), 0);
        // What goes on from the next ROOM makes no place for this one till the next DAY.
        LavaLodger x = flat("c2,9;");
        x.feeding(8);
        x.days(1);
        lies("8 on the first day", x, 4, 2, 1);
        x.feeding(0);
        x.days(1);
        lies("what was left of it on the second", x, 3, 2, 1);
        due.says("WALLS 0, 1, ..: WALL k between ROOM k and the next one");
        int[][] held = {{8, 0, 0}, {4, 4, 0}, {4, 2, 2}};
        for (int w = 0; w < 3; w++) {
            LavaLodger walled = flat("c2,9;");
            walled.feeding(8);
            walled.wall(w, 9);
            walled.days(1);
            lies("wall " + w, walled, held[w]);
        }
        due.says("DAY is 1 more.");
        LavaLodger days = flat("c2,9;");
        for (int day = 1; day <= 30; day++) {
            days.days(1);
            due.is("day", days.count(3), day);
        }
        days.days(24);
        due.is("24 more", days.count(3), 54);
    }

    private static void flow(String what, int feed, int wall, int... lava) {
        LavaLodger x = flat("c2,9;");
        x.feeding(feed);
        x.wall(0, wall);
        x.days(1);
        lies(what, x, lava);
    }

    private static void road() {
        due.says("(that of the last one: between it and THE ROAD). LEVEL of a ROOM: FLOOR and LAVA; of "
                + "THE ROAD 0 (it keeps none).");
        String high = "v4,1;r9;r9;r9;c2,9;";
        LavaLodger x = Due.told(high);
        x.days(1);
        lies("all that comes to the last room goes on", x, 2, 1, 0);
        due.is("the road keeps none", x.count(4), 3);
        LavaLodger low = Due.told(high);
        low.wall(2, 8);
        low.days(1);
        lies("a wall of 8", low, 2, 1, 0);
        LavaLodger held = Due.told(high);
        held.wall(2, 9);
        held.days(1);
        lies("a wall of 9", held, 2, 1, 1);
        LavaLodger one = flat("c0,9;");
        one.feeding(4);
        one.days(1);
        lies("1 above the road", one, 2, 1, 1);
        LavaLodger two = Due.told("v4,60;r0;r0;r1;c0,9;");
        two.days(1);
        lies("a floor of 1 above the road, without lava", two, 2, 2, 0);
        LavaLodger three = Due.told("v1,60;r9;r5;r1;c0,9;");
        three.days(1);
        due.is("2 above the road", three.count(4), 0);
    }

    private static void whoGoes() {
        due.says("a chair by one ROOM, if there is LAVA in its ROOM or the one ahead of that (of the "
                + "number 1 less); a clock by two, if there is in its own;");
        // Lava of 1 in ROOM 0 alone, then in ROOM 1 alone, for one in ROOM 0, 1, 2, 3, 4.
        goes('c', 0, 1, 2, 2, 3, 4);
        goes('l', 0, 2, 1, 2, 3, 4);
        goes('c', 1, 0, 2, 3, 3, 4);
        goes('l', 1, 0, 3, 2, 3, 4);
        due.says("a table as a chair, but on DAYS that are even alone;");
        goes('t', 0, 1, 2, 2, 3, 4);
        goes('t', 1, 0, 2, 3, 3, 4);
        due.says("a person as a chair, also if there is in the one two ahead;");
        goes('p', 0, 1, 2, 3, 3, 4);
        goes('p', 1, 0, 2, 3, 4, 4);
        due.says("an aunt as a person, but by two, if there is in its own.");
        goes('a', 0, 2, 2, 3, 3, 4);
        goes('a', 1, 0, 3, 3, 4, 4);
    }

    private static void goes(char sort, int wet, int... to) {
        for (int room = 0; room < to.length; room++) {
            String floors = wet == 0 ? "r0;r0;r0;r0;r0;r0;r0;" : "r9;r0;r0;r0;r0;r0;r0;";
            LavaLodger x = Due.told("v1,60;" + floors + sort + room + ",9;");
            x.days(1);
            due.is("lava is in room " + wet + " alone", x.roomOf(wet, 1) * 10 + x.count(4), 11);
            due.is(sort + " of room " + room + ", lava in " + wet, x.thing(0, 1), to[room]);
        }
    }

    private static void tablesByDays() {
        due.says("a table as a chair, but on DAYS that are even alone;");
        for (int day = 0; day < 9; day++) {
            for (char sort : SORTS.toCharArray()) {
                LavaLodger x = flat(sort + "0,9;");
                if (day > 0) {
                    x.days(day);
                }
                due.is(sort + " without lava", x.thing(0, 1), 0);
                x.feeding(1);
                x.days(1);
                int paces = sort == 't' ? (day + 1) % 2 : sort == 'l' || sort == 'a' ? 2 : 1;
                due.is(sort + " on day " + day, x.thing(0, 1), paces);
            }
        }
    }

    private static void outBeyondTheLast() {
        due.says("One that comes beyond the last ROOM is OUT.");
        // Of FLAT with FEED 4 each ROOM is wet behind a DAY, of no more than 2.
        for (char sort : SORTS.toCharArray()) {
            boolean byTwo = sort == 'l' || sort == 'a';
            LavaLodger last = flat(sort + "2,9;" + sort + "1,9;" + sort + "0,9;");
            last.feeding(4);
            last.days(1);
            due.is(sort + " of the last room", last.thing(0, 1), OUT);
            due.is(sort + " of the last but one", last.thing(1, 1), byTwo ? OUT : 2);
            due.is(sort + " of the first", last.thing(2, 1), byTwo ? 2 : 1);
            due.is(sort + " is out", last.stand(5), byTwo ? 3 : 1);
            last.days(3);
            due.is(sort + " is out yet", last.thing(0, 1), OUT);
        }
        due.says("a THING that stands is CARRIED one ROOM on (beyond the last: OUT)");
        LavaLodger x = flat("c0,9;a1,9;l2,9;");
        due.is("from the first", x.carry(0), 1);
        due.is("from the last but one", x.carry(1), 2);
        due.is("from the last", x.carry(2), OUT);
        due.is("no further", x.carry(2), STATE);
        due.is("an aunt by one, too", x.carry(1), OUT);
        LavaLodger ten = Due.told("v0,0;r0;r0;r0;r0;r0;r0;r0;r0;r0;r0;c8,1;");
        due.is("of ten rooms", ten.carry(0), 9);
        due.is("of ten rooms, out", ten.carry(0), OUT);
    }

    private static void keptInStone() {
        due.says("4 each that stands in a ROOM with as much LAVA as it is HIGH, or more, is STONE.");
        // On DAY 1 tables do not go on; a WALL of 9 keeps all 5 in ROOM 0.
        LavaLodger x = flat("t0,4;t0,5;t0,6;t0,9;t1,1;t0,1;");
        x.wall(0, 9);
        x.days(1);
        x.feeding(5);
        due.is("as much or more", x.days(1), 1 + 2 + 32);
        due.is("less than it is high", x.thing(2, 1), 0);
        due.is("no lava there", x.thing(4, 1), 1);
        due.is("stone in room 0", x.thing(1, 1), STONE);
        due.is("who is stone there", x.roomOf(0, 4), 1 + 2 + 32);
        due.is("who stands there", x.roomOf(0, 3), 4 + 8);
        due.says("is STONE (in a ROOM, for good).");
        x.wall(0, 0);
        x.feeding(0);
        x.days(2);
        due.is("less lava than it is high", x.roomOf(0, 1) < 4);
        due.is("stone yet", x.thing(1, 1), STONE);
        x.feeding(20);
        x.days(2);
        due.is("stone yet, with more", x.stand(4) & 35, 35);
        // It is looked at behind going on, not ahead of it.
        LavaLodger flees = flat("c0,1;");
        flees.feeding(1);
        due.is("it has gone on by then", flees.days(1), 0);
        LavaLodger into = flat("c0,1;c0,2;");
        into.feeding(4);
        due.is("it has come to where there is lava", into.days(1), 1);
        due.is("stone in room 1", into.thing(0, 1), STONE + 1);
    }

    // ---- ACTS

    private static void acts() {
        due.says("ACTS (24 at most are kept, of more the oldest is forgotten; each can be undone, the "
                + "latest first)");
        LavaLodger x = flat("c0,9;c0,9;");
        x.carry(0);
        for (int v = 1; v <= 24; v++) {
            x.feeding(v % 21);
            due.is("acts behind " + (v + 1), x.count(7), Math.min(24, v + 1));
        }
        due.is("24 are kept", x.undo(), 23);
        due.is("the latest first", x.stand(1), 2);
        for (int left = 22; left >= 0; left--) {
            due.is("undo()", x.undo(), left);
            due.is("FEED then", x.stand(1), left % 21);
        }
        due.is("the oldest is forgotten", x.undo(), STATE);
        due.is("what it did stays", x.thing(0, 1), 1);
        LavaLodger day = flat("c0,9;");
        day.feeding(1);
        due.is("24 days at once", day.days(24) >= 0);
        due.is("24 acts", day.count(7), 24);
        for (int left = 23; left >= 0; left--) {
            due.is("undo() of a day", day.undo(), left);
            due.is("day then", day.count(3), left);
        }
        due.is("no more", day.undo(), STATE);
        due.is("the feeding is forgotten", day.stand(1), 1);
        wrapAround();
        eachKindOfAct();
    }

    // Undone and done anew at every place of what is kept, so that its ring turns all around.
    private static void wrapAround() {
        LavaLodger x = flat("c0,9;");
        for (int turn = 0; turn < 30; turn++) {
            x.wall(0, turn % 10);
            x.wall(1, (turn + 1) % 10);
            due.is("undo() in turn " + turn, x.undo(), Math.min(24, turn + 2) - 1);
            due.is("wall 1 in turn " + turn, x.roomOf(1, 2), 0);
            due.is("wall 0 in turn " + turn, x.roomOf(0, 2), turn % 10);
        }
        for (int left = 22; left >= 0; left--) {
            due.is("undo() behind all", x.undo(), left);
            due.is("wall 0 then", x.roomOf(0, 2), (left + 6) % 10);
        }
        due.is("no more behind all", x.undo(), STATE);
    }

    private static void eachKindOfAct() {
        LavaLodger x = flat("t0,1;c1,9;");
        x.days(1);
        x.feeding(4);
        x.wall(2, 7);
        due.is("kept", x.days(1), 1);
        due.is("carried", x.carry(1), OUT);
        due.is("dug out", x.dig(0), 0);
        due.is("all are out", x.stand(5), 3);
        due.says("one that is STONE is dug out (it is OUT).");
        due.is("undo the digging", x.undo(), 5);
        due.is("stone again", x.thing(0, 1), STONE);
        due.says("a THING that stands is CARRIED one ROOM on");
        due.is("undo the carrying", x.undo(), 4);
        due.is("it stands again", x.thing(1, 1), 2);
        due.is("undo the day", x.undo(), 3);
        due.is("day 1", x.count(3), 1);
        due.is("no lava", x.count(4), 0);
        due.is("who stands", x.stand(3), 3);
        due.is("it is where it was", x.thing(1, 1), 1);
        due.says("a WALL is another (0 to 9)");
        due.is("undo the wall", x.undo(), 2);
        due.is("no wall", x.roomOf(2, 2), 0);
        due.says("FEED is another;");
        due.is("undo the feeding", x.undo(), 1);
        due.is("fed as told", x.stand(1), 0);
        due.is("undo the first day", x.undo(), 0);
        due.is("day 0", x.count(3), 0);
        due.is("no more", x.undo(), STATE);
    }

    private static void lastCalls() {
        due.says("An object is used for at most 512 calls after it has been made");
        LavaLodger x = flat("c0,9;");
        // 20 bytes were told and read by 21 calls.
        for (int calls = 21; calls < 510; calls++) {
            due.is("feed", x.feed('v') != BAD);
        }
        due.is("the 511th", x.count(8), 90);
        due.is("the 512th", x.street(), -1000101);
    }
}
