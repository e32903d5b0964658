/** Each promise of the document by itself; what is due was worked out by hand. */
public final class PromisesTest {
    private static final int NONE = -1000000, BAD = -1000001, STATE = -1000002, FULL = -1000003;
    private static final int NULL = -1000011, PLACE = -1000012, KIND = -1000013, SIZE = -1000014,
            STORE = -1000015;
    private static final int TOO_BIG = Integer.MAX_VALUE, TOO_SMALL = Integer.MIN_VALUE;

    // Behind 1 DAY lava 3 2 0 0 0 1, things at 31 2 2 2 2 3; behind 2: 5 3 1 1 1 1 and
    // 31 4 32 3 4 4; behind 3: 7 4 2 2 1 1 and 31 20 32 4 20 5.
    private static final String SIX = "v6,9;r5;r4;r4;r2;r1;r0;c0,2;l0,3;t1,1;p1,5;a0,4;c2,9;";
    // Behind 1 DAY lava 5 2 1.
    private static final String FLAT = "v9,60;r0;r0;r0;";

    private static final Due due = new Due();

    public static void main(String[] args) {
        rows();
        told();
        done();
        foretold();
        asked();
        due.end();
    }

    private static void rows() {
        row();
        set();
        copy();
        drop();
    }

    private static void told() {
        newObject();
        feed();
        street();
        fault();
        undo();
    }

    private static void done() {
        days();
        kindsGoOn();
        wall();
        carry();
        feeding();
        dig();
        thing();
        roomOf();
        stand();
    }

    private static void foretold() {
        ahead();
        lava();
        kept();
        when();
        front();
        carries();
        dam();
        hold();
        spare();
        sets();
        share();
        byTurns();
        who();
        feeds();
        gives();
        drawn();
        images();
    }

    private static void asked() {
        kind();
        as();
        ask();
        trace();
        count();
        status();
    }

    private static void newObject() {
        due.about("1 new object");
        LavaLodger x = new LavaLodger();
        for (int what = 0; what <= 8; what++) {
            due.is("count(" + what + ")", x.count(what), 0);
        }
        due.is("stand(0)", x.stand(0), STATE);
        due.is("kind(0)", x.kind(0), BAD);
        due.is("roomOf(0, 0)", x.roomOf(0, 0), BAD);
        due.is("fault()", x.fault(), 0);
        due.is("status()", x.status(), 0);
        due.is("undo()", x.undo(), STATE);
        due.is("restore(1)", x.restore(1), STATE);
        due.is("trace(0)", x.trace(0), NONE);
        due.is("NONE", LavaLodger.NONE, NONE);
        due.is("BAD", LavaLodger.BAD, BAD);
        due.is("STATE", LavaLodger.STATE, STATE);
        due.is("FULL", LavaLodger.FULL, FULL);
    }

    // There is no call that reads an ITEM: behind a WALL of 9 what lies in ROOM 0 behind a DAY
    // is FEED itself, up to 10, so the least FEED that fits tells the ITEM.
    private static int item(LavaLodger x, int row, int i) {
        return x.feeds(0, 2, row, i, 1);
    }

    private static LavaLodger readable() {
        LavaLodger x = Due.told(FLAT + "c0,9;");
        x.wall(0, 9);
        return x;
    }

    private static void fill(LavaLodger x, int row, int lane, int n) {
        x.row(row, lane, n);
        for (int i = 0; i < n; i++) {
            x.set(row, i, i);
        }
    }

    private static void row() {
        due.about("2 row");
        LavaLodger x = readable();
        due.is("row(0, 0, 40)", x.row(0, 0, 40), 40);
        due.is("row(7, 2, 0)", x.row(7, 2, 0), 0);
        due.is("count(0)", x.count(0), 2);
        due.is("row(-1, 0, 1)", x.row(-1, 0, 1), BAD);
        due.is("row(8, 0, 1)", x.row(8, 0, 1), BAD);
        due.is("row(1, -1, 1)", x.row(1, -1, 1), BAD);
        due.is("row(1, 3, 1)", x.row(1, 3, 1), BAD);
        due.is("row(1, 0, 41)", x.row(1, 0, 41), BAD);
        due.is("row(1, 0, max)", x.row(1, 0, TOO_BIG), BAD);
        due.is("BAD ahead of SIZE", x.row(8, 0, -1), BAD);
        due.is("BAD lane ahead of SIZE", x.row(1, 3, -1), BAD);
        due.is("row(1, 0, -1)", x.row(1, 0, -1), SIZE);
        due.is("row(1, 0, min)", x.row(1, 0, TOO_SMALL), SIZE);
        due.is("nothing came of these", x.count(0), 2);
        x.set(0, 39, 7);
        due.is("row(0, 1, -1)", x.row(0, 1, -1), SIZE);
        due.is("the row stays", item(x, 0, 39), 7);
        due.is("its lane stays", x.set(0, 0, 300), 44);
        due.is("row(0, 1, 40)", x.row(0, 1, 40), 40);
        due.is("in place of what is there", item(x, 0, 39), 0);
        due.is("of its first item, too", item(x, 0, 0), 0);
        due.is("its lane is another", x.set(0, 0, 300), 300);
        due.is("count(0) again", x.count(0), 2);
        due.is("row(0, 1, 2)", x.row(0, 1, 2), 2);
        due.is("fewer places", x.set(0, 2, 0), PLACE);
    }

    private static void set() {
        due.about("3 set");
        LavaLodger x = readable();
        x.row(0, 0, 2);
        x.row(1, 1, 2);
        x.row(2, 2, 2);
        x.row(3, 0, 0);
        due.is("byte 200", x.set(0, 0, 200), -56);
        due.is("byte -129", x.set(0, 0, -129), 127);
        due.is("byte 256", x.set(0, 1, 256), 0);
        due.is("short 40000", x.set(1, 0, 40000), -25536);
        due.is("short -32769", x.set(1, 1, -32769), 32767);
        due.is("int", x.set(2, 1, TOO_SMALL), TOO_SMALL);
        due.is("it stays so", x.set(2, 0, 6), 6);
        due.is("read", item(x, 2, 0), 6);
        due.is("set(-1, 0, 0)", x.set(-1, 0, 0), BAD);
        due.is("set(8, 0, 0)", x.set(8, 0, 0), BAD);
        due.is("set(4, 0, 0)", x.set(4, 0, 0), NULL);
        due.is("NULL ahead of PLACE", x.set(4, -1, 0), NULL);
        due.is("set(0, -1, 0)", x.set(0, -1, 0), PLACE);
        due.is("set(0, 2, 0)", x.set(0, 2, 0), PLACE);
        due.is("set(3, 0, 0)", x.set(3, 0, 0), PLACE);
        due.is("set(0, max, 0)", x.set(0, TOO_BIG, 0), PLACE);
        due.is("set(0, min, 0)", x.set(0, TOO_SMALL, 0), PLACE);
    }

    private static void copy() {
        due.about("4 copy");
        LavaLodger x = readable();
        fill(x, 0, 0, 6);
        x.row(1, 0, 4);
        x.row(2, 1, 4);
        due.is("copy(0, 2, 1, 1, 3)", x.copy(0, 2, 1, 1, 3), 3);
        due.is("first stays", item(x, 1, 0), 0);
        due.is("second", item(x, 1, 1), 2);
        due.is("last", item(x, 1, 3), 4);
        due.is("onto itself, up", x.copy(0, 0, 0, 1, 5), 5);
        due.is("as they were ahead", item(x, 0, 5), 4);
        due.is("the first two are one", item(x, 0, 1), 0);
        due.is("onto itself, down", x.copy(0, 1, 0, 0, 5), 5);
        due.is("as they were ahead, too", item(x, 0, 4), 4);
        due.is("none, at the ends", x.copy(0, 6, 1, 4, 0), 0);
        due.is("copy(-1 ..)", x.copy(-1, 0, 1, 0, 1), BAD);
        due.is("copy(.. 8 ..)", x.copy(0, 0, 8, 0, 1), BAD);
        due.is("from a missing one", x.copy(5, 0, 1, 0, 1), NULL);
        due.is("to a missing one", x.copy(1, 0, 5, 0, 1), NULL);
        due.is("NULL ahead of PLACE", x.copy(1, -1, 5, 0, 1), NULL);
        due.is("two lanes", x.copy(0, 0, 2, 0, 1), STORE);
        due.is("two lanes, none", x.copy(0, 0, 2, 0, 0), STORE);
        due.is("STORE ahead of PLACE", x.copy(0, -1, 2, 0, 1), STORE);
        due.is("i below 0", x.copy(0, -1, 1, 0, 1), PLACE);
        due.is("j below 0", x.copy(0, 0, 1, -1, 1), PLACE);
        due.is("n below 0", x.copy(0, 0, 1, 0, -1), PLACE);
        due.is("beyond the end of a", x.copy(0, 4, 1, 0, 3), PLACE);
        due.is("beyond the end of b", x.copy(0, 0, 1, 2, 3), PLACE);
        due.is("i beyond, none", x.copy(0, 7, 1, 0, 0), PLACE);
        due.is("great i and n", x.copy(0, TOO_BIG, 1, 0, TOO_BIG), PLACE);
        due.is("great j and n", x.copy(0, 0, 1, TOO_BIG, TOO_BIG), PLACE);
        due.is("least n", x.copy(0, 1, 1, 1, TOO_SMALL), PLACE);
        due.is("nothing came of these", item(x, 1, 3), 4);
    }

    private static void drop() {
        due.about("5 drop");
        LavaLodger x = new LavaLodger();
        x.row(3, 1, 17);
        due.is("drop(3)", x.drop(3), 17);
        due.is("drop(3) again", x.drop(3), NULL);
        due.is("count(0)", x.count(0), 0);
        due.is("set(3, 0, 0)", x.set(3, 0, 0), NULL);
        due.is("drop(-1)", x.drop(-1), BAD);
        due.is("drop(8)", x.drop(8), BAD);
        x.row(3, 2, 0);
        due.is("one without items", x.drop(3), 0);
    }

    private static void feed() {
        due.about("6 feed");
        LavaLodger x = new LavaLodger();
        due.is("feed(-1)", x.feed(-1), BAD);
        due.is("feed(256)", x.feed(256), BAD);
        due.is("count(8)", x.count(8), 0);
        for (int i = 1; i <= 90; i++) {
            due.is("feed", x.feed(i % 2 == 0 ? 0 : 255), i);
        }
        due.is("one more", x.feed(1), FULL);
        due.is("BAD ahead of FULL", x.feed(256), BAD);
        due.is("count(8) is", x.count(8), 90);
        due.is("read", x.street(), -1000100);
        due.is("empty then", x.count(8), 0);
        due.is("feed(0)", x.feed(0), 1);
    }

    private static void faulty(String text, int place, int number) {
        LavaLodger x = new LavaLodger();
        due.is(text, Due.tell(x, text), -1000100 - place);
        due.is(text + " fault()", x.fault(), number);
        due.is(text + " count(8)", x.count(8), 0);
        due.is(text + " stand(0)", x.stand(0), STATE);
    }

    private static void street() {
        due.about("7 street");
        faulty("", 0, 1);
        faulty("r0;", 0, 1);
        faulty("V0,0;", 0, 1);
        faulty("v", 1, 1);
        faulty("v,", 1, 1);
        faulty("v 0,0;", 1, 1);
        faulty("v000,0;", 1, 1);
        faulty("v210,0;", 1, 1);
        faulty("v21,0;", 1, 2);
        faulty("v99", 1, 2);
        faulty("v20", 3, 1);
        faulty("v20;", 3, 1);
        faulty("v20,61;", 4, 2);
        faulty("v20,600;", 4, 1);
        faulty("v20,60", 6, 1);
        faulty("v20,60,", 6, 1);
        faulty("v0,0;", 5, 1);
        faulty("v0,0;c0,1;", 5, 1);
        faulty("v0,0;v", 5, 1);
        faulty("v0,0;r10;", 6, 2);
        faulty("v0,0;r0;r0;", 11, 1);
        faulty("v0,0;r0;r0;c0,1;", 11, 1);
        faulty("v0,0;r0;r0;r0;", 14, 1);
        faulty("v0,0;r0;r0;r0;x", 14, 1);
        faulty("v0,0;r0;r0;r0;;", 14, 1);
        faulty("v0,0;r0;r0;r0;c", 15, 1);
        faulty("v0,0;r0;r0;r0;c3,1;", 15, 2);
        faulty("v0,0;r0;r0;r0;c003,1;", 15, 1);
        faulty("v0,0;r0;r0;r0;c2;1;", 16, 1);
        faulty("v0,0;r0;r0;r0;c2,0;", 17, 2);
        faulty("v0,0;r0;r0;r0;c2,10;", 17, 2);
        faulty("v0,0;r0;r0;r0;c2,1", 18, 1);
        faulty("v0,0;r0;r0;r0;c2,1;r0;", 19, 1);
        faulty("v0,0;r0;r0;r0;c2,1;1", 19, 1);
        faulty("v0,0;r0;r0;r0;c2,1;" + (char) 200, 19, 1);
        String ten = "v0,0;r0;r1;r2;r3;r4;r5;r6;r7;r8;r9;";
        faulty(ten + "r0;c0,1;", 35, 3);
        faulty(ten + "r", 35, 3);
        faulty(ten + "c10,1;", 36, 2);
        String six = "v0,0;r0;r0;r0;c0,1;c0,1;c0,1;c0,1;c0,1;c0,1;";
        faulty(six + "a0,1;", 44, 3);
        faulty(six + "a", 44, 3);
        faulty(six + "r0;", 44, 1);
        faulty(six + ";", 44, 1);

        LavaLodger x = new LavaLodger();
        due.is("most", Due.tell(x, ten + "c9,9;l8,8;t7,7;p6,6;a5,5;c4,4;"), 6);
        due.is("rooms", x.count(2), 10);
        due.is("floor", x.roomOf(7, 0), 7);
        due.is("least", Due.tell(x, "v00,07;r09;r0;r0;p02,01;"), 1);
        due.is("rooms then", x.count(2), 3);
        due.is("floor then", x.roomOf(0, 0), 9);
        due.is("stop then", x.stand(2), 7);
        due.is("where then", x.thing(0, 1), 2);
        x.wall(0, 5);
        x.days(3);
        due.is("a fault", Due.tell(x, "v20,6?"), -1000105);
        due.is("all stays", x.count(3), 3);
        due.is("acts, too", x.count(7), 4);
        due.is("in its place", Due.tell(x, SIX), 6);
        due.is("day 0", x.count(3), 0);
        due.is("no lava", x.count(4), 0);
        due.is("no walls", x.roomOf(0, 2), 0);
        due.is("all stand", x.stand(3), 63);
        due.is("no act", x.count(7), 0);
        due.is("undo()", x.undo(), STATE);
    }

    private static void fault() {
        due.about("8 fault");
        LavaLodger x = new LavaLodger();
        due.is("before one", x.fault(), 0);
        Due.tell(x, FLAT + "c0,1;");
        due.is("none yet", x.fault(), 0);
        Due.tell(x, "v21");
        due.is("2", x.fault(), 2);
        Due.tell(x, FLAT + "c0,1;");
        due.is("the latest stays", x.fault(), 2);
        Due.tell(x, "w");
        due.is("1", x.fault(), 1);
    }

    private static void undo() {
        due.about("9 undo");
        LavaLodger x = Due.told(SIX);
        due.is("none", x.undo(), STATE);
        x.days(2);
        x.wall(5, 9);
        x.carry(3);
        x.feeding(20);
        x.dig(2);
        due.is("acts", x.count(7), 6);
        due.is("dug", x.thing(2, 1), 20);
        due.is("undig", x.undo(), 5);
        due.is("stone again", x.thing(2, 1), 32);
        due.is("unfeed", x.undo(), 4);
        due.is("as fed", x.stand(1), 6);
        due.is("uncarry", x.undo(), 3);
        due.is("where it was", x.thing(3, 1), 3);
        due.is("unwall", x.undo(), 2);
        due.is("wall", x.roomOf(5, 2), 0);
        due.is("unday", x.undo(), 1);
        due.is("day", x.count(3), 1);
        due.is("lava", x.roomOf(0, 1), 3);
        due.is("no stone but one", x.stand(4), 1);
        due.is("unday again", x.undo(), 0);
        due.is("all stand", x.stand(3), 63);
        due.is("no lava", x.count(4), 0);
        due.is("none again", x.undo(), STATE);
        x.days(24);
        x.days(6);
        due.is("24 are kept", x.count(7), 24);
        for (int left = 23; left >= 0; left--) {
            due.is("undo()", x.undo(), left);
        }
        due.is("the oldest are forgotten", x.count(3), 6);
        due.is("undo() then", x.undo(), STATE);
        due.is("refused acts are none", x.carry(0), STATE);
        due.is("no act", x.count(7), 0);
    }

    private static void days() {
        due.about("10 days");
        LavaLodger none = new LavaLodger();
        due.is("STATE ahead of BAD", none.days(0), STATE);
        LavaLodger x = Due.told(SIX);
        due.is("days(0)", x.days(0), BAD);
        due.is("days(25)", x.days(25), BAD);
        due.is("days(-1)", x.days(-1), BAD);
        due.is("days(1)", x.days(1), 1);
        lies(x, new int[] {3, 2, 0, 0, 0, 1});
        places(x, new int[] {31, 2, 2, 2, 2, 3});
        due.is("days(1) again", x.days(1), 5);
        lies(x, new int[] {5, 3, 1, 1, 1, 1});
        places(x, new int[] {31, 4, 32, 3, 4, 4});
        due.is("days(1) once more", x.days(1), 5);
        lies(x, new int[] {7, 4, 2, 2, 1, 1});
        places(x, new int[] {31, 20, 32, 4, 20, 5});
        due.is("day", x.count(3), 3);
        due.is("each an act", x.count(7), 3);
        for (int k = 0; k < 41; k++) {
            x.days(24);
        }
        due.is("day is", x.count(3), 987);
        due.is("days(13)", x.days(13), FULL);
        due.is("BAD ahead of FULL", x.days(25), BAD);
        due.is("days(12)", x.days(12), 5);
        due.is("day 999", x.count(3), 999);
        due.is("one more", x.days(1), FULL);
        due.is("nothing came of it", x.count(3), 999);

        LavaLodger stops = Due.told("v1,2;r0;r0;r0;c2,9;");
        stops.days(1);
        due.is("fed on day 0", stops.count(4), 1);
        stops.days(1);
        due.is("fed on day 1", stops.count(4), 2);
        stops.days(3);
        due.is("not from STOP on", stops.count(4), 2);

        LavaLodger walled = Due.told("v5,60;r0;r0;r0;c2,9;");
        walled.wall(0, 4);
        walled.days(1);
        lies(walled, new int[] {5, 0, 0});
        walled.days(1);
        lies(walled, new int[] {7, 2, 1});

        LavaLodger steep = Due.told("v1,60;r9;r0;r0;c2,9;");
        steep.days(1);
        due.is("no more than there is", steep.roomOf(0, 1), 0);
        due.is("of a road it goes", steep.count(4), 1);
    }

    private static void lies(LavaLodger x, int[] lava) {
        for (int r = 0; r < lava.length; r++) {
            due.is("lava of room " + r + " on day " + x.count(3), x.roomOf(r, 1), lava[r]);
        }
    }

    private static void places(LavaLodger x, int[] places) {
        for (int t = 0; t < places.length; t++) {
            due.is("place of thing " + t + " on day " + x.count(3), x.thing(t, 1), places[t]);
        }
    }

    // WALL 1 of 9 keeps all lava in ROOMS 0 and 1, so that each kind is seen by its distance.
    private static void kindsGoOn() {
        due.about("2 of the terms, who goes on");
        goes("c", 0, new int[] {1, 2, 3, 3, 4, 5});
        goes("l", 0, new int[] {2, 3, 2, 3, 4, 5});
        goes("t", 0, new int[] {1, 2, 3, 3, 4, 5});
        goes("t", 1, new int[] {0, 1, 2, 3, 4, 5});
        goes("p", 0, new int[] {1, 2, 3, 4, 4, 5});
        goes("a", 0, new int[] {2, 3, 3, 4, 4, 5});
    }

    private static void goes(String sort, int first, int[] to) {
        for (int room = 0; room < to.length; room++) {
            LavaLodger x = Due.told("v0,60;r0;r0;r0;r0;r0;r0;" + sort + room + ",9;");
            x.wall(1, 9);
            if (first == 1) {
                x.days(1);
            }
            x.feeding(4);
            x.days(1);
            due.is(sort + " of room " + room + " on day " + first, x.thing(0, 1), to[room]);
        }
        LavaLodger x = Due.told("v20,60;r0;r0;r0;" + sort + "2,9;");
        x.days(1);
        due.is(sort + " of the last room", x.thing(0, 1), 20);
    }

    private static void wall() {
        due.about("11 wall");
        LavaLodger x = Due.told(SIX);
        due.is("wall(0, 9)", x.wall(0, 9), 0);
        due.is("wall(0, 3)", x.wall(0, 3), 9);
        due.is("wall(5, 1)", x.wall(5, 1), 0);
        due.is("acts", x.count(7), 3);
        due.is("wall(-1, 0)", x.wall(-1, 0), BAD);
        due.is("wall(6, 0)", x.wall(6, 0), BAD);
        due.is("wall(0, -1)", x.wall(0, -1), BAD);
        due.is("wall(0, 10)", x.wall(0, 10), BAD);
        due.is("it stays", x.roomOf(0, 2), 3);
        due.is("no act", x.count(7), 3);
        due.is("no street", new LavaLodger().wall(0, 1), BAD);
    }

    private static void carry() {
        due.about("12 carry");
        LavaLodger x = Due.told(FLAT + "c0,9;l2,1;");
        due.is("carry(0)", x.carry(0), 1);
        due.is("carry(1)", x.carry(1), 20);
        due.is("out", x.carry(1), STATE);
        due.is("carry(0) again", x.carry(0), 2);
        due.is("carry(0) out", x.carry(0), 20);
        due.is("carry(2)", x.carry(2), BAD);
        due.is("carry(-1)", x.carry(-1), BAD);
        due.is("acts", x.count(7), 4);
        LavaLodger stone = Due.told(FLAT + "c0,1;");
        stone.days(1);
        due.is("stone", stone.carry(0), STATE);
        due.is("stone ahead of nothing", stone.thing(0, 1), 31);
    }

    private static void feeding() {
        due.about("13 feeding");
        LavaLodger none = new LavaLodger();
        due.is("STATE ahead of BAD", none.feeding(21), STATE);
        LavaLodger x = Due.told(SIX);
        due.is("feeding(20)", x.feeding(20), 6);
        due.is("feeding(0)", x.feeding(0), 20);
        due.is("feeding(21)", x.feeding(21), BAD);
        due.is("feeding(-1)", x.feeding(-1), BAD);
        due.is("acts", x.count(7), 2);
        x.days(1);
        due.is("nothing is fed", x.count(4), 0);
    }

    private static void dig() {
        due.about("14 dig");
        LavaLodger x = Due.told(SIX);
        due.is("it stands", x.dig(0), STATE);
        x.days(2);
        due.is("dig(0)", x.dig(0), 4);
        due.is("out", x.thing(0, 1), 20);
        due.is("dig(0) again", x.dig(0), STATE);
        due.is("dig(2)", x.dig(2), 0);
        due.is("dig(6)", x.dig(6), BAD);
        due.is("dig(-1)", x.dig(-1), BAD);
        due.is("acts", x.count(7), 4);
        LavaLodger first = stoneInFirstRoom();
        due.is("in room 0", first.dig(0), 0);
        due.is("out of room 0", first.thing(0, 1), 20);
    }

    // On DAY 1 a table does not flee: ROOM 0 is the one place that hardly any is kept in.
    private static LavaLodger stoneInFirstRoom() {
        LavaLodger x = Due.told("v0,60;r0;r0;r0;t0,1;");
        x.days(1);
        x.feeding(4);
        due.is("kept in room 0", x.days(1), 1);
        return x;
    }

    private static void thing() {
        due.about("15 thing");
        LavaLodger x = Due.told(SIX);
        x.days(3);
        due.is("high", x.thing(5, 0), 9);
        due.is("stands", x.thing(5, 1), 5);
        due.is("lava there", x.thing(5, 2), 1);
        due.is("stone", x.thing(0, 1), 31);
        due.is("lava around it", x.thing(0, 2), 4);
        due.is("out", x.thing(1, 1), 20);
        due.is("no lava on the road", x.thing(1, 2), 0);
        due.is("stone in room 0", stoneInFirstRoom().thing(0, 1), 30);
        due.is("thing(0, 3)", x.thing(0, 3), BAD);
        due.is("thing(0, -1)", x.thing(0, -1), BAD);
        due.is("thing(6, 0)", x.thing(6, 0), BAD);
        due.is("thing(-1, 0)", x.thing(-1, 0), BAD);
    }

    private static void roomOf() {
        due.about("16 roomOf");
        LavaLodger x = Due.told(SIX);
        x.wall(3, 7);
        x.undo();
        x.days(2);
        x.wall(3, 7);
        due.is("floor", x.roomOf(3, 0), 2);
        due.is("lava", x.roomOf(0, 1), 5);
        due.is("wall", x.roomOf(3, 2), 7);
        due.is("who stands", x.roomOf(4, 3), 2 + 16 + 32);
        due.is("who stands in 2", x.roomOf(2, 3), 0);
        due.is("who is stone", x.roomOf(2, 4), 4);
        due.is("who is stone in 4", x.roomOf(4, 4), 0);
        due.is("roomOf(0, 5)", x.roomOf(0, 5), BAD);
        due.is("roomOf(0, -1)", x.roomOf(0, -1), BAD);
        due.is("roomOf(6, 0)", x.roomOf(6, 0), BAD);
        due.is("roomOf(-1, 0)", x.roomOf(-1, 0), BAD);
    }

    private static void stand() {
        due.about("17 stand");
        LavaLodger x = Due.told(SIX);
        x.days(3);
        due.is("rooms", x.stand(0), 6);
        due.is("feed", x.stand(1), 6);
        due.is("stop", x.stand(2), 9);
        due.is("who stands", x.stand(3), 8 + 32);
        due.is("who is stone", x.stand(4), 1 + 4);
        due.is("who is out", x.stand(5), 2 + 16);
        due.is("stand(6)", x.stand(6), BAD);
        due.is("stand(-1)", x.stand(-1), BAD);
        due.is("STATE ahead of BAD", new LavaLodger().stand(6), STATE);
    }

    private static void ahead() {
        due.about("18 ahead");
        LavaLodger x = Due.told(SIX);
        int[] behindTwo = {31, 4, 32, 3, 4, 4};
        for (int t = 0; t < 6; t++) {
            due.is("ahead(" + t + ", 2)", x.ahead(t, 2), behindTwo[t]);
        }
        due.is("ahead(1, 0)", x.ahead(1, 0), 0);
        due.is("ahead(1, 3)", x.ahead(1, 3), 20);
        due.is("ahead(1, 60)", x.ahead(1, 60), 20);
        due.is("ahead(1, 61)", x.ahead(1, 61), BAD);
        due.is("ahead(1, -1)", x.ahead(1, -1), BAD);
        due.is("ahead(6, 1)", x.ahead(6, 1), BAD);
        due.is("ahead(-1, 1)", x.ahead(-1, 1), BAD);
        due.is("nothing changes", x.count(3) + x.count(4), 0);
    }

    private static void lava() {
        due.about("19 lava");
        LavaLodger x = Due.told(SIX);
        int[] behindThree = {7, 4, 2, 2, 1, 1};
        for (int r = 0; r < 6; r++) {
            due.is("lava(" + r + ", 3)", x.lava(r, 3), behindThree[r]);
            due.is("lava(" + r + ", 0)", x.lava(r, 0), 0);
        }
        due.is("lava(0, 61)", x.lava(0, 61), BAD);
        due.is("lava(0, -1)", x.lava(0, -1), BAD);
        due.is("lava(6, 0)", x.lava(6, 0), BAD);
        due.is("lava(-1, 0)", x.lava(-1, 0), BAD);
        due.is("nothing changes", x.count(4), 0);
        int far = x.lava(2, 60);
        for (int k = 0; k < 5; k++) {
            x.days(12);
        }
        due.is("60 days", x.roomOf(2, 1), far);
    }

    private static void kept() {
        due.about("20 kept");
        LavaLodger x = Due.told(SIX);
        due.is("kept(0, 0)", x.kept(0, 0), 0);
        due.is("kept(1, 0)", x.kept(1, 0), 1);
        due.is("kept(3, 0)", x.kept(3, 0), 5);
        due.is("kept(3, 1)", x.kept(3, 1), 18);
        due.is("kept(2, 1)", x.kept(2, 1), 0);
        due.is("kept(61, 0)", x.kept(61, 0), BAD);
        due.is("kept(-1, 0)", x.kept(-1, 0), BAD);
        due.is("kept(0, 2)", x.kept(0, 2), BAD);
        due.is("kept(0, -1)", x.kept(0, -1), BAD);
        due.is("STATE ahead of BAD", new LavaLodger().kept(61, 9), STATE);
        due.is("nothing changes", x.count(3), 0);
    }

    private static void when() {
        due.about("21 when");
        LavaLodger x = Due.told(SIX);
        due.is("touched", x.when(1, 0), 2);
        due.is("touched as it is stone", x.when(0, 0), 1);
        due.is("stone", x.when(2, 1), 2);
        due.is("never stone", x.when(1, 1), NONE);
        due.is("out", x.when(4, 2), 3);
        due.is("never out", x.when(0, 2), NONE);
        due.is("when(0, 3)", x.when(0, 3), BAD);
        due.is("when(0, -1)", x.when(0, -1), BAD);
        due.is("when(6, 0)", x.when(6, 0), BAD);
        due.is("when(-1, 0)", x.when(-1, 0), BAD);
        x.days(3);
        due.is("stone by now", x.when(0, 1), 0);
        due.is("touched by now", x.when(0, 0), 0);
        due.is("out by now", x.when(1, 2), 0);
        due.is("out is not touched", x.when(1, 0), NONE);
        due.is("stone in room 0", stoneInFirstRoom().when(0, 1), 0);
        due.is("who is stone there", stoneInFirstRoom().roomOf(0, 4), 1);
        LavaLodger late = Due.told("v0,60;r0;r0;r0;c2,1;");
        due.is("never touched", late.when(0, 0), NONE);
        // A WALL of 9 holds 1 a DAY back till there are 11: ROOM 0 alone is wet for 10 DAYS.
        LavaLodger slow = Due.told("v1,60;r0;r0;r0;c1,1;");
        slow.wall(0, 9);
        slow.wall(1, 9);
        slow.wall(2, 9);
        due.is("goes ahead of it", slow.ahead(0, 5), 2);
        due.is("dry till then", slow.lava(1, 10), 0);
        due.is("out behind 11", slow.when(0, 2), 11);
        due.is("it is not touched", slow.when(0, 0), NONE);
    }

    private static void front() {
        due.about("22 front");
        LavaLodger x = Due.told(FLAT + "c2,9;");
        due.is("front(0)", x.front(0), NONE);
        due.is("front(1)", x.front(1), 2);
        x.wall(1, 9);
        due.is("front(1) behind a wall", x.front(1), 1);
        x.wall(0, 9);
        due.is("front(1) behind two", x.front(1), 0);
        due.is("front(61)", x.front(61), BAD);
        due.is("front(-1)", x.front(-1), BAD);
        due.is("STATE ahead of BAD", new LavaLodger().front(61), STATE);
        // A gap does not end it: SIX behind 1 DAY has lava in ROOMS 0, 1 and 5.
        due.is("the last one", Due.told(SIX).front(1), 5);
    }

    private static void carries() {
        due.about("23 carries");
        LavaLodger one = Due.told(FLAT + "c1,1;");
        due.is("how many", one.carries(1, 0, -1), 0);
        due.is("which", one.carries(1, 0, 0), 0);
        due.is("not so many", one.carries(1, 0, 1), NONE);
        due.is("far more", one.carries(1, 0, TOO_BIG), NONE);
        LavaLodger two = Due.told(FLAT + "c2,1;c1,1;");
        due.is("the other", two.carries(1, 0, 0), 1);
        LavaLodger lost = Due.told(FLAT + "c0,1;");
        due.is("lost anyway", lost.carries(1, 0, -1), 1);
        due.is("of several the first", lost.carries(1, 0, 0), 0);
        LavaLodger all = Due.told(FLAT + "c0,1;c0,1;c0,1;c0,1;c0,1;c0,1;");
        due.is("all are lost", all.carries(1, 20, -1), 6);
        due.is("the first row of them", all.carries(1, 20, 0), 0);
        // The WALL holds on DAY 0, but not on DAY 1, when the table does not flee.
        LavaLodger later = Due.told(FLAT + "c2,9;t2,1;");
        later.wall(0, 9);
        due.is("more days", later.carries(1, 1, -1), 0);
        due.is("the one that is kept then", later.carries(1, 1, 0), 1);
        // On DAY 1 a table stays where it is, and all that is fed lies one ROOM on.
        LavaLodger none = Due.told("v0,60;r5;r0;r9;t0,2;");
        none.days(1);
        none.feeding(4);
        due.is("none is best", none.carries(1, 0, -1), 0);
        due.is("nothing then", none.carries(1, 0, 0), NONE);
        LavaLodger out = Due.told(FLAT + "c2,1;c2,9;");
        out.carry(0);
        due.is("one that is out is the first that does nothing", out.carries(4, 20, 3), 0);
        LavaLodger x = Due.told(FLAT + "c0,9;");
        due.is("carries(0, 0, -1)", x.carries(0, 0, -1), BAD);
        due.is("carries(5, 0, -1)", x.carries(5, 0, -1), BAD);
        due.is("carries(1, -1, -1)", x.carries(1, -1, -1), BAD);
        due.is("carries(1, 21, -1)", x.carries(1, 21, -1), BAD);
        due.is("carries(1, 0, -2)", x.carries(1, 0, -2), BAD);
        due.is("STATE ahead of BAD", new LavaLodger().carries(0, 0, -2), STATE);
        due.is("nothing changes", x.count(3) + x.count(7) + x.thing(0, 1), 0);
    }

    private static void dam() {
        due.about("24 dam");
        // Chairs flee ROOM 1 to ROOM 2 and are kept there, unless WALL 1 (or 0) holds it back.
        LavaLodger x = Due.told(FLAT + "c1,1;c1,1;");
        due.is("a low one, which", x.dam(2, 1, 0), 0);
        due.is("a low one, how many", x.dam(2, 1, 1), 2);
        due.is("of 3, which", x.dam(3, 1, 0), 1);
        due.is("of 3, how many", x.dam(3, 1, 1), 0);
        due.is("of 9, the first", x.dam(9, 1, 0), 0);
        due.is("dam(0, 1, 0)", x.dam(0, 1, 0), BAD);
        due.is("dam(10, 1, 0)", x.dam(10, 1, 0), BAD);
        due.is("dam(1, 0, 0)", x.dam(1, 0, 0), BAD);
        due.is("dam(1, 41, 0)", x.dam(1, 41, 0), BAD);
        due.is("dam(1, 1, 2)", x.dam(1, 1, 2), BAD);
        due.is("dam(1, 1, -1)", x.dam(1, 1, -1), BAD);
        due.is("STATE ahead of BAD", new LavaLodger().dam(0, 0, 9), STATE);
        due.is("nothing changes", x.roomOf(0, 2) + x.count(7), 0);
        x.days(1);
        due.is("those who are now are among them", x.dam(9, 1, 1), 2);
    }

    private static void hold() {
        due.about("25 hold");
        LavaLodger x = Due.told(FLAT + "c0,9;");
        due.is("hold(1, 0, 1)", x.hold(1, 0, 1), 8);
        due.is("hold(2, 1, 1)", x.hold(2, 1, 1), 3);
        due.is("hold(2, 0, 1)", x.hold(2, 0, 1), 6);
        due.is("never", x.hold(0, 0, 1), NONE);
        due.is("the wall behind does not help", x.hold(1, 1, 1), NONE);
        due.is("hold(3, 0, 1)", x.hold(3, 0, 1), BAD);
        due.is("hold(-1, 0, 1)", x.hold(-1, 0, 1), BAD);
        due.is("hold(0, 3, 1)", x.hold(0, 3, 1), BAD);
        due.is("hold(0, -1, 1)", x.hold(0, -1, 1), BAD);
        due.is("hold(0, 0, 0)", x.hold(0, 0, 0), BAD);
        due.is("hold(0, 0, 41)", x.hold(0, 0, 41), BAD);
        x.wall(0, 9);
        due.is("the least, whatever it is now", x.hold(1, 0, 1), 8);
        due.is("nothing changes", x.roomOf(0, 2), 9);
        x.feeding(0);
        due.is("none is needed", x.hold(1, 0, 40), 0);
    }

    private static void spare() {
        due.about("26 spare");
        LavaLodger x = Due.told(FLAT + "c0,1;");
        due.is("spare(1)", x.spare(1), 1);
        due.is("spare(0)", x.spare(0), BAD);
        due.is("spare(41)", x.spare(41), BAD);
        due.is("STATE ahead of BAD", new LavaLodger().spare(0), STATE);
        due.is("nothing changes", x.stand(1), 9);
        x.days(1);
        due.is("those who are now do not count", x.spare(40), 20);
        // On DAY 1 the table does not flee, and of the 10 held back till then 1 comes to it.
        LavaLodger none = Due.told("v20,60;r0;r0;r0;r0;r0;t3,1;");
        none.wall(1, 9);
        none.days(1);
        none.wall(1, 0);
        due.is("it stands", none.thing(0, 1), 3);
        due.is("by none", none.spare(1), NONE);
    }

    private static void sets() {
        due.about("27 sets");
        LavaLodger x = Due.told(SIX);
        due.is("of 5", x.sets(5, 0), 3);
        due.is("in all of 5", x.sets(5, 1), 0);
        due.is("in any of 5", x.sets(5, 2), 31);
        due.is("of 9", x.sets(9, 0), 4);
        due.is("of all", x.sets(24, 0), 1);
        due.is("in all", x.sets(24, 1), 63);
        due.is("in any", x.sets(24, 2), 63);
        due.is("of 23", x.sets(23, 1), 59);
        due.is("the empty one", x.sets(0, 0), 1);
        due.is("none in it", x.sets(0, 1) + x.sets(0, 2), 0);
        due.is("none", x.sets(25, 0), 0);
        due.is("in all of none", x.sets(54, 1), 0);
        due.is("in any of none", x.sets(54, 2), 0);
        due.is("sets(55, 0)", x.sets(55, 0), BAD);
        due.is("sets(-1, 0)", x.sets(-1, 0), BAD);
        due.is("sets(0, 3)", x.sets(0, 3), BAD);
        due.is("sets(0, -1)", x.sets(0, -1), BAD);
        due.is("STATE ahead of BAD", new LavaLodger().sets(55, 3), STATE);
        x.days(3);
        due.is("who stands alone", x.sets(14, 1), 8 + 32);
        due.is("no others", x.sets(3, 0), 0);
    }

    private static void share() {
        due.about("28 share");
        LavaLodger x = Due.told(SIX);
        due.is("none is out", x.share(1, 10), 0);
        x.days(3);
        due.is("first of 10", x.share(1, 10), 5);
        due.is("second of 10", x.share(4, 10), 5);
        due.is("first of 7", x.share(1, 7), 3);
        due.is("second of 7", x.share(4, 7), 4);
        due.is("first of 1", x.share(1, 1), 1);
        due.is("second of 1", x.share(4, 1), 0);
        due.is("of none", x.share(1, 0), 0);
        due.is("stone", x.share(0, 10), 0);
        due.is("stands", x.share(3, 10), 0);
        due.is("share(1, 1000)", x.share(1, 1000), BAD);
        due.is("share(1, -1)", x.share(1, -1), BAD);
        due.is("share(6, 1)", x.share(6, 1), BAD);
        due.is("share(-1, 1)", x.share(-1, 1), BAD);
        due.is("of 999", x.share(1, 999) + x.share(4, 999), 999);
    }

    private static void byTurns() {
        due.about("29 byTurns");
        LavaLodger x = Due.told(FLAT + "c0,1;");
        due.is("byTurns(0, 1)", x.byTurns(0, 1), 1);
        due.is("byTurns(1, 1)", x.byTurns(1, 1), 1);
        due.is("byTurns(2, 1)", x.byTurns(2, 1), 1);
        due.is("carried twice", x.byTurns(3, 1), 0);
        LavaLodger odd = Due.told("v0,60;r0;r0;r0;t0,1;");
        odd.days(1);
        due.is("nothing is fed", odd.byTurns(1, 1), 0);
        due.is("the dresser feeds it", odd.byTurns(2, 1), 1);
        LavaLodger higher = Due.told("v0,60;r0;r0;r0;t0,2;");
        higher.days(1);
        due.is("carried ahead of that", higher.byTurns(2, 1), 0);
        due.is("byTurns(-1, 1)", x.byTurns(-1, 1), BAD);
        due.is("byTurns(5, 1)", x.byTurns(5, 1), BAD);
        due.is("byTurns(0, 0)", x.byTurns(0, 0), BAD);
        due.is("byTurns(0, 21)", x.byTurns(0, 21), BAD);
        due.is("STATE ahead of BAD", new LavaLodger().byTurns(9, 9), STATE);
        due.is("nothing changes", x.count(3) + x.count(7) + x.thing(0, 1), 0);
    }

    private static void who() {
        due.about("30 who");
        LavaLodger x = Due.told(SIX);
        x.row(0, 0, 3);
        x.set(0, 1, 31);
        x.set(0, 2, 31);
        due.is("kinds", x.who(0, 0, 0, 1, 1), 2 + 8 + 16);
        due.is("highs", x.who(0, 1, 0, 1, 1), 2 + 4);
        due.is("rooms", x.who(0, 2, 0, 1, 1), 1);
        due.is("rooms for two days", x.who(0, 2, 0, 1, 2), 1);
        due.is("it never is there", x.who(0, 2, 0, 0, 2), 0);
        x.set(0, 0, 20);
        due.is("out at once", x.who(0, 2, 0, 0, 1), 32);
        x.set(0, 0, 4);
        due.is("it stays", x.who(0, 2, 0, 0, 1), 16);
        due.is("who(6 ..)", x.who(6, 0, 0, 0, 1), BAD);
        due.is("who(-1 ..)", x.who(-1, 0, 0, 0, 1), BAD);
        due.is("which 3", x.who(0, 3, 0, 0, 1), BAD);
        due.is("which -1", x.who(0, -1, 0, 0, 1), BAD);
        due.is("row 8", x.who(0, 0, 8, 0, 1), BAD);
        due.is("row -1", x.who(0, 0, -1, 0, 1), BAD);
        due.is("n 0", x.who(0, 0, 0, 0, 0), BAD);
        due.is("n 13", x.who(0, 0, 0, 0, 13), BAD);
        due.is("missing", x.who(0, 0, 1, -1, 1), NULL);
        due.is("i -1", x.who(0, 0, 0, -1, 1), PLACE);
        due.is("beyond", x.who(0, 0, 0, 1, 3), PLACE);
        due.is("i great", x.who(0, 0, 0, TOO_BIG, 12), PLACE);
        x.row(2, 2, 12);
        due.is("12 days", x.who(0, 0, 2, 0, 12), 0);
        x.days(1);
        due.is("stone", x.who(0, 0, 0, 0, 1), STATE);
        due.is("STATE ahead of NULL", x.who(0, 0, 1, 0, 1), STATE);
        due.is("BAD ahead of STATE", x.who(0, 0, 8, 0, 1), BAD);
    }

    private static void feeds() {
        due.about("31 feeds");
        LavaLodger x = Due.told(SIX);
        x.row(0, 1, 3);
        x.set(0, 1, 3);
        x.set(0, 2, 5);
        due.is("floors", x.feeds(0, 0, 0, 1, 1), 16 + 32);
        due.is("feeds", x.feeds(0, 1, 0, 1, 1), 2);
        due.is("the least", x.feeds(0, 2, 0, 1, 1), 6);
        due.is("two days", x.feeds(0, 2, 0, 1, 2), 6);
        x.set(0, 0, -1);
        due.is("no floor", x.feeds(0, 0, 0, 0, 1), 0);
        due.is("no feed", x.feeds(0, 1, 0, 0, 1), 0);
        due.is("no least", x.feeds(0, 2, 0, 0, 1), NONE);
        due.is("room 6", x.feeds(6, 0, 0, 0, 1), BAD);
        due.is("room -1", x.feeds(-1, 0, 0, 0, 1), BAD);
        due.is("which 3", x.feeds(0, 3, 0, 0, 1), BAD);
        due.is("which -1", x.feeds(0, -1, 0, 0, 1), BAD);
        due.is("row 8", x.feeds(0, 0, 8, 0, 1), BAD);
        due.is("row -1", x.feeds(0, 0, -1, 0, 1), BAD);
        due.is("n 0", x.feeds(0, 0, 0, 0, 0), BAD);
        due.is("n 13", x.feeds(0, 0, 0, 0, 13), BAD);
        due.is("missing", x.feeds(0, 0, 1, -1, 1), NULL);
        due.is("i -1", x.feeds(0, 0, 0, -1, 1), PLACE);
        due.is("beyond", x.feeds(0, 0, 0, 2, 2), PLACE);
        due.is("nothing changes", x.stand(1) + x.roomOf(0, 0), 11);
        LavaLodger dry = Due.told("v0,0;r0;r0;r0;c0,1;");
        dry.row(0, 2, 12);
        due.is("all feeds", dry.feeds(1, 1, 0, 0, 12), 21);
        due.is("all floors", dry.feeds(1, 0, 0, 0, 12), 1023);
    }

    private static void fraction(LavaLodger x, int n, int p, long above, long below) {
        due.is("gives(0, " + n + ", " + p + ", 0)", x.gives(0, n, p, 0), above);
        due.is("gives(0, " + n + ", " + p + ", 1)", x.gives(0, n, p, 1), below);
    }

    private static void gives() {
        due.about("32 gives");
        // WALL 0 of 9 saves it; without that WALL it flees from ROOM 1 to 2 and is kept there.
        LavaLodger x = Due.told(FLAT + "c1,1;");
        fraction(x, 1, 4, 0, 1);
        x.wall(0, 9);
        fraction(x, 1, 4, 3, 5);
        fraction(x, 1, 0, 1, 1);
        fraction(x, 1, 10, 0, 1);
        fraction(x, 1, 5, 1, 2);
        fraction(x, 1, 3, 7, 10);
        fraction(x, 0, 10, 1, 1);
        x.wall(1, 9);
        fraction(x, 1, 4, 21, 25);
        x.wall(2, 9);
        fraction(x, 1, 3, 91, 100);
        due.is("gives(1 ..)", x.gives(1, 1, 1, 0), BAD);
        due.is("gives(-1 ..)", x.gives(-1, 1, 1, 0), BAD);
        due.is("n 41", x.gives(0, 41, 1, 0), BAD);
        due.is("n -1", x.gives(0, -1, 1, 0), BAD);
        due.is("p 11", x.gives(0, 1, 11, 0), BAD);
        due.is("p -1", x.gives(0, 1, -1, 0), BAD);
        due.is("what 2", x.gives(0, 1, 1, 2), BAD);
        due.is("what -1", x.gives(0, 1, 1, -1), BAD);
        due.is("nothing changes", x.roomOf(0, 2), 9);
        fraction(stoneInFirstRoom(), 3, 5, 0, 1);
        LavaLodger many = Due.told("v20,60;r0;r0;r0;r0;r0;r0;r0;r0;r0;r0;t9,1;");
        for (int w = 0; w < 10; w++) {
            many.wall(w, 1);
        }
        due.is("10 walls, p 3", many.gives(0, 40, 3, 1) <= 10000000000L);
    }

    private static void drawn() {
        due.about("33 drawn");
        // By 16807 and 282475249, neither of which 3 divides: kept in ROOM 1, set into ROOM 1
        // again, and kept in ROOM 2.
        LavaLodger x = Due.told(FLAT + "c0,1;");
        due.is("drawn(0, 1, 0)", x.drawn(0, 1, 0), 0);
        due.is("drawn(1, 1, 0)", x.drawn(1, 1, 0), 1);
        due.is("drawn(2, 1, 0)", x.drawn(2, 1, 0), 2);
        due.is("drawn(2, 1, 1)", x.drawn(2, 1, 1), 0);
        // By 3 times 16807: FEED is 1, and nothing comes on.
        due.is("drawn(1, 3, 0)", x.drawn(1, 3, 0), 0);
        due.is("drawn(61, 1, 0)", x.drawn(61, 1, 0), BAD);
        due.is("drawn(-1, 1, 0)", x.drawn(-1, 1, 0), BAD);
        due.is("drawn(1, 0, 0)", x.drawn(1, 0, 0), BAD);
        due.is("drawn(1, 1000000, 0)", x.drawn(1, 1000000, 0), BAD);
        due.is("drawn(1, 1, 2)", x.drawn(1, 1, 2), BAD);
        due.is("drawn(1, 1, -1)", x.drawn(1, 1, -1), BAD);
        due.is("STATE ahead of BAD", new LavaLodger().drawn(61, 0, 2), STATE);
        due.is("nothing changes", x.count(3) + x.count(4) + x.thing(0, 1), 0);
        LavaLodger out = Due.told(FLAT + "c2,9;");
        due.is("out", out.drawn(1, 1, 1), 1);
    }

    private static void images() {
        due.about("34 image, 35 restore");
        LavaLodger x = new LavaLodger();
        due.is("BAD ahead of STATE", x.image(2), BAD);
        due.is("image(-1)", x.image(-1), BAD);
        due.is("image(0)", x.image(0), STATE);
        due.is("restore(2)", x.restore(2), BAD);
        due.is("restore(-1)", x.restore(-1), BAD);
        due.is("restore(0)", x.restore(0), STATE);
        Due.tell(x, SIX);
        x.days(2);
        x.wall(4, 6);
        due.is("kept", x.image(1), 1);
        due.is("the other is not", x.restore(0), STATE);
        due.is("acts stay", x.count(7), 3);
        x.days(2);
        x.dig(0);
        x.feeding(1);
        Due.tell(x, FLAT + "c0,1;");
        x.days(4);
        x.row(0, 0, 3);
        x.feed('v');
        due.is("restore(1)", x.restore(1), 1);
        due.is("things", x.count(1), 6);
        due.is("rooms", x.count(2), 6);
        due.is("day", x.count(3), 2);
        due.is("no act", x.count(7), 0);
        due.is("undo()", x.undo(), STATE);
        due.is("wall", x.roomOf(4, 2), 6);
        due.is("feed", x.stand(1), 6);
        due.is("rows stay", x.count(0), 1);
        due.is("the tape stays", x.count(8), 1);
        lies(x, new int[] {5, 3, 1, 1, 1, 1});
        places(x, new int[] {31, 4, 32, 3, 4, 4});
        x.days(1);
        due.is("again", x.restore(1), 1);
        due.is("as it kept it", x.count(3), 2);
    }

    private static void kind() {
        due.about("36 kind");
        LavaLodger x = Due.told(SIX);
        int[] kinds = {1, 2, 3, 4, 5, 1};
        for (int t = 0; t < 6; t++) {
            due.is("kind(" + t + ")", x.kind(t), kinds[t]);
        }
        due.is("kind(6)", x.kind(6), BAD);
        due.is("kind(-1)", x.kind(-1), BAD);
    }

    private static void as() {
        due.about("37 as");
        LavaLodger x = Due.told(SIX);
        String[] is = {"01", "012", "013", "04", "045", "01"};
        for (int t = 0; t < 6; t++) {
            for (int kind = 0; kind <= 5; kind++) {
                boolean fits = is[t].indexOf('0' + kind) >= 0;
                due.is("as(" + t + ", " + kind + ")", x.as(t, kind), fits ? t : KIND);
                due.is("status()", x.status(), fits ? 0 : 3);
            }
        }
        due.is("as(0, 6)", x.as(0, 6), BAD);
        due.is("as(0, -1)", x.as(0, -1), BAD);
        due.is("as(6, 0)", x.as(6, 0), BAD);
        due.is("as(-1, 0)", x.as(-1, 0), BAD);
    }

    private static void asks(LavaLodger x, int one, int what, int answer, int[] bodies) {
        due.is("ask(" + one + ", " + what + ")", x.ask(one, what), answer);
        for (int i = 0; i < bodies.length; i++) {
            due.is("trace(" + i + ") of ask(" + one + ", " + what + ")", x.trace(i), bodies[i]);
        }
        due.is("no more of ask(" + one + ", " + what + ")", x.trace(bodies.length), NONE);
    }

    private static void ask() {
        due.about("38 ask");
        LavaLodger x = Due.told(SIX);
        asks(x, 0, 0, 2, new int[] {11, 10, 21, 20});
        asks(x, 0, 1, 0, new int[] {21, 20});
        asks(x, 1, 0, -5, new int[] {12, 11, 10, 24, 21, 20});
        asks(x, 1, 1, 2, new int[] {24, 21, 20});
        asks(x, 2, 0, -996, new int[] {11, 10, 22, 21, 20});
        asks(x, 2, 1, -997, new int[] {22, 21, 20});
        asks(x, 3, 0, -95, new int[] {13, 10});
        asks(x, 3, 1, 98, new int[] {23, 20, 13, 10});
        asks(x, 4, 0, -192, new int[] {14, 13, 10});
        asks(x, 4, 1, 196, new int[] {23, 20, 14, 13, 10});
        asks(x, 5, 0, 16, new int[] {11, 10, 21, 20});
        due.is("ask(6, 0)", x.ask(6, 0), BAD);
        due.is("ask(-1, 0)", x.ask(-1, 0), BAD);
        due.is("ask(0, 2)", x.ask(0, 2), BAD);
        due.is("ask(0, -1)", x.ask(0, -1), BAD);
        due.is("the trace stays", x.trace(0), 11);
        x.days(3);
        asks(x, 0, 1, 1, new int[] {21, 20});
        asks(x, 1, 0, -13, new int[] {12, 11, 10, 24, 21, 20});
        asks(x, 2, 1, 2 + 2 - 1000, new int[] {22, 21, 20});
        x.dig(0);
        asks(x, 0, 1, 1, new int[] {21, 20});
        x.carry(5);
        asks(x, 5, 1, 10, new int[] {21, 20});
    }

    private static void trace() {
        due.about("39 trace");
        LavaLodger x = Due.told(SIX);
        due.is("trace(0)", x.trace(0), NONE);
        x.ask(1, 0);
        due.is("trace(5)", x.trace(5), 20);
        due.is("trace(6)", x.trace(6), NONE);
        due.is("trace(-1)", x.trace(-1), NONE);
        due.is("trace(16)", x.trace(16), NONE);
        due.is("trace(max)", x.trace(TOO_BIG), NONE);
        due.is("trace(min)", x.trace(TOO_SMALL), NONE);
        Due.tell(x, FLAT + "c0,1;");
        due.is("it stays with another street", x.trace(0), 12);
    }

    private static void count() {
        due.about("40 count");
        LavaLodger x = Due.told(SIX);
        x.days(3);
        x.row(2, 2, 2);
        x.row(5, 0, 0);
        x.feed(1);
        int[] counts = {2, 6, 6, 3, 17, 2, 2, 3, 1};
        for (int what = 0; what < counts.length; what++) {
            due.is("count(" + what + ")", x.count(what), counts[what]);
        }
        due.is("count(9)", x.count(9), BAD);
        due.is("count(-1)", x.count(-1), BAD);
    }

    private static void status() {
        due.about("41 status");
        LavaLodger x = Due.told(SIX);
        due.is("none yet", x.status(), 0);
        x.set(0, 0, 0);
        due.is("NULL", x.status(), 1);
        x.set(8, 0, 0);
        due.is("BAD leaves it", x.status(), 1);
        x.days(1);
        due.is("others leave it", x.status(), 1);
        x.who(0, 0, 0, 0, 1);
        due.is("STATE leaves it", x.status(), 1);
        x.row(0, 0, 2);
        due.is("row", x.status(), 0);
        x.set(0, 2, 0);
        due.is("PLACE", x.status(), 2);
        x.set(0, 1, 2);
        due.is("set", x.status(), 0);
        x.as(0, 5);
        due.is("KIND", x.status(), 3);
        x.as(0, 9);
        due.is("as BAD leaves it", x.status(), 3);
        x.as(0, 0);
        due.is("as", x.status(), 0);
        x.row(1, 1, -1);
        due.is("SIZE", x.status(), 4);
        x.who(1, 0, 0, 0, 1);
        due.is("who", x.status(), 0);
        x.row(1, 1, 2);
        x.copy(0, 0, 1, 0, 1);
        due.is("STORE", x.status(), 5);
        x.feeds(0, 0, 0, 0, 1);
        due.is("feeds", x.status(), 0);
        x.feeds(0, 0, 7, 0, 1);
        due.is("feeds NULL", x.status(), 1);
        x.copy(0, 0, 0, 1, 1);
        due.is("copy", x.status(), 0);
        x.who(1, 0, 0, 1, 2);
        due.is("who PLACE", x.status(), 2);
        x.drop(0);
        due.is("drop", x.status(), 0);
        x.drop(0);
        due.is("drop NULL", x.status(), 1);
        x.feed(999);
        x.street();
        x.undo();
        x.restore(0);
        x.ask(0, 0);
        due.is("it stays yet", x.status(), 1);
    }
}
