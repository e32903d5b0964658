import java.util.List;

/**
 * Refusals and findings: which comes first, and that nothing changes by them but status(); and
 * that nothing changes by what is foretold.
 */
public final class RefusalsTest {
    private static final int NONE = -1000000, BAD = -1000001, STATE = -1000002, FULL = -1000003;
    private static final int NULL = -1000011, PLACE = -1000012, KIND = -1000013, SIZE = -1000014,
            STORE = -1000015;
    private static final int FINDINGS = -1000010;
    // Behind 1 DAY lava 1 1 1, and the chair stands in ROOM 1, the table is STONE, the person OUT.
    private static final String STREET = "v4,20;r3;r1;r0;c0,3;t1,1;p2,9;";
    private static final int STANDS = 0, IS_STONE = 1, IS_OUT = 2, NO_THING = 3, NO_ROOM = 3;
    // Rows 0, 1, 2 have the three LANES and 3 ITEMS, row 3 is bytes again, the others are missing.
    private static final int BYTES = 0, SHORTS = 1, INTS = 2, EMPTY = 3, MISSING = 4, NO_ROW = 8;

    private static final Due due = new Due();

    private interface Call {
        long on(LavaLodger x);
    }

    public static void main(String[] args) {
        isBusy();
        numbers();
        withoutStreet();
        rows();
        told();
        done();
        foretold();
        byRows();
        asked();
        nothingChanges();
        due.end();
    }

    // ---- an object in the midst of everything, and whether it is that yet

    private static LavaLodger busy() {
        LavaLodger x = Due.told("v9,60;r0;r0;r0;c0,9;");
        x.wall(0, 9);
        x.image(1);
        Due.tell(x, "v21");
        Due.tell(x, STREET);
        x.days(1);
        x.image(0);
        x.feeding(5);
        x.wall(2, 3);
        for (int row = BYTES; row <= INTS; row++) {
            x.row(row, row, 3);
            x.set(row, 0, 4 + row);
            x.set(row, 2, 7 + row);
        }
        x.row(EMPTY, 0, 0);
        x.ask(IS_STONE, 0);
        x.feed('v');
        x.feed('7');
        x.set(BYTES, 3, 0);
        return x;
    }

    private static void isBusy() {
        due.about("the object that all is tried on");
        LavaLodger x = busy();
        due.is("who stands", x.stand(3), 1 << STANDS);
        due.is("who is stone", x.stand(4), 1 << IS_STONE);
        due.is("who is out", x.stand(5), 1 << IS_OUT);
        due.is("acts", x.count(7), 3);
        due.is("rows", x.count(0), 4);
        due.is("trace", x.trace(0), 11);
        due.is("fault", x.fault(), 2);
        staysBusy("at first", x, Seen.of(x));
    }

    private static void staysBusy(String call, LavaLodger x, List<Integer> was) {
        due.is(call + " and nothing that is seen changes", Seen.of(x).equals(was));
        due.is(call + " and a byte comes behind the tape", x.feed(';'), 3);
        due.is(call + " and the wall is undone", x.undo(), 2);
        due.is(call + " and it was none", x.roomOf(2, 2), 0);
        due.is(call + " and the feeding is undone", x.undo(), 1);
        due.is(call + " and it was 4", x.stand(1), 4);
        due.is(call + " and the day is undone", x.undo(), 0);
        due.is(call + " and all stood", x.stand(3), 7);
        due.is(call + " and no more", x.undo(), STATE);
        due.is(call + " and the image is kept", x.restore(0), 1);
        due.is(call + " and of that day", x.count(3) * 100 + x.stand(1) * 10 + x.roomOf(2, 2), 140);
        rowsStay(call, x);
    }

    // In ROOM 0 of image 1 lies on the next DAY what is fed, so the least FEED tells an ITEM.
    private static void rowsStay(String call, LavaLodger x) {
        due.is(call + " and the other image is kept", x.restore(1), 1);
        for (int row = BYTES; row <= INTS; row++) {
            due.is(call + " and item 0 of row " + row, x.feeds(0, 2, row, 0, 1), 4 + row);
            due.is(call + " and item 1 of row " + row, x.feeds(0, 2, row, 1, 1), 0);
            due.is(call + " and item 2 of row " + row, x.feeds(0, 2, row, 2, 1), 7 + row);
            due.is(call + " and no more in row " + row, x.set(row, 3, 0), PLACE);
        }
        due.is(call + " and bytes", x.set(BYTES, 0, 40000), 64);
        due.is(call + " and shorts", x.set(SHORTS, 0, 40000), -25536);
        due.is(call + " and ints", x.set(INTS, 0, 40000), 40000);
        due.is(call + " and the empty row", x.copy(EMPTY, 0, BYTES, 3, 0), 0);
        due.is(call + " and the missing row", x.drop(MISSING), NULL);
    }

    private static void refused(String call, Call how, int answer) {
        LavaLodger x = busy();
        due.is("status() ahead of " + call, x.status(), 2);
        List<Integer> was = Seen.of(x);
        due.is(call, how.on(x), answer);
        boolean found = answer < FINDINGS;
        due.is("status() behind " + call, x.status(), found ? FINDINGS - answer : 2);
        staysBusy(call, x, was);
    }

    private static void silent(String call, Call how, int status) {
        LavaLodger x = busy();
        List<Integer> was = Seen.of(x);
        long answer = how.on(x);
        due.is(call + " is not refused", answer > NONE || answer == NONE);
        due.is("status() behind " + call, x.status(), status);
        staysBusy(call, x, was);
    }

    private static void numbers() {
        due.says("then FINDINGS, of several the first in time: -1000010 less 1 NULL (a ROW that is missing), "
                + "2 PLACE (no such place of a ROW), 3 KIND (a THING that is not that), 4 SIZE (fewer "
                + "than none), 5 STORE (ROWS of two LANES).");
        due.is("NONE", LavaLodger.NONE, -1000000);
        due.is("BAD", LavaLodger.BAD, -1000001);
        due.is("STATE", LavaLodger.STATE, -1000002);
        due.is("FULL", LavaLodger.FULL, -1000003);
        refused("NULL", x -> x.drop(MISSING), -1000011);
        refused("PLACE", x -> x.set(BYTES, 3, 0), -1000012);
        refused("KIND", x -> x.as(STANDS, 5), -1000013);
        refused("SIZE", x -> x.row(BYTES, 0, -1), -1000014);
        refused("STORE", x -> x.copy(BYTES, 0, INTS, 0, 1), -1000015);
    }

    // ---- no STREET

    private static void bare(String call, Call how, int answer) {
        LavaLodger x = new LavaLodger();
        List<Integer> was = Seen.of(x);
        due.is(call + " without a street", how.on(x), answer);
        due.is(call + " leaves it without one", Seen.of(x).equals(was) && x.stand(0) == STATE);
        due.is(call + " finds nothing", x.status(), 0);
    }

    private static void withoutStreet() {
        due.says("STATE: no STREET (ahead of BAD)");
        bare("days(1)", x -> x.days(1), STATE);
        bare("days(0)", x -> x.days(0), STATE);
        bare("days(25)", x -> x.days(25), STATE);
        bare("feeding(0)", x -> x.feeding(0), STATE);
        bare("feeding(21)", x -> x.feeding(21), STATE);
        bare("stand(0)", x -> x.stand(0), STATE);
        bare("stand(6)", x -> x.stand(6), STATE);
        bare("kept(0, 0)", x -> x.kept(0, 0), STATE);
        bare("kept(61, 2)", x -> x.kept(61, 2), STATE);
        bare("front(0)", x -> x.front(0), STATE);
        bare("front(-1)", x -> x.front(-1), STATE);
        bare("carries(1, 0, -1)", x -> x.carries(1, 0, -1), STATE);
        bare("carries(0, 21, -2)", x -> x.carries(0, 21, -2), STATE);
        bare("dam(1, 1, 0)", x -> x.dam(1, 1, 0), STATE);
        bare("dam(0, 41, 2)", x -> x.dam(0, 41, 2), STATE);
        bare("spare(1)", x -> x.spare(1), STATE);
        bare("spare(41)", x -> x.spare(41), STATE);
        bare("sets(0, 0)", x -> x.sets(0, 0), STATE);
        bare("sets(55, 3)", x -> x.sets(55, 3), STATE);
        bare("byTurns(0, 1)", x -> x.byTurns(0, 1), STATE);
        bare("byTurns(5, 0)", x -> x.byTurns(5, 0), STATE);
        bare("drawn(0, 1, 0)", x -> x.drawn(0, 1, 0), STATE);
        bare("drawn(61, 0, 2)", x -> x.drawn(61, 0, 2), STATE);
        due.says("An IMAGE (0, 1) is kept of the STREET: 1. BAD; STATE: no STREET.");
        bare("image(0)", x -> x.image(0), STATE);
        bare("image(1)", x -> x.image(1), STATE);
        bare("image(2)", x -> x.image(2), BAD);
        due.says("(no ACT can be undone then): 1. BAD; STATE: none was kept.");
        bare("restore(0)", x -> x.restore(0), STATE);
        bare("restore(1)", x -> x.restore(1), STATE);
        bare("restore(-1)", x -> x.restore(-1), BAD);
        due.says("The latest ACT is undone: how many can be undone yet. STATE: none.");
        bare("undo()", x -> x.undo(), STATE);
        noSuchThing();
    }

    private static void noSuchThing() {
        due.says("BAD (a number is not as told; there is no such thing)");
        bare("wall(0, 0)", x -> x.wall(0, 0), BAD);
        bare("carry(0)", x -> x.carry(0), BAD);
        bare("dig(0)", x -> x.dig(0), BAD);
        bare("thing(0, 0)", x -> x.thing(0, 0), BAD);
        bare("roomOf(0, 0)", x -> x.roomOf(0, 0), BAD);
        bare("ahead(0, 0)", x -> x.ahead(0, 0), BAD);
        bare("lava(0, 0)", x -> x.lava(0, 0), BAD);
        bare("when(0, 0)", x -> x.when(0, 0), BAD);
        bare("hold(0, 0, 1)", x -> x.hold(0, 0, 1), BAD);
        bare("share(0, 0)", x -> x.share(0, 0), BAD);
        bare("who(0, 0, 0, 0, 1)", x -> x.who(0, 0, 0, 0, 1), BAD);
        bare("feeds(0, 0, 0, 0, 1)", x -> x.feeds(0, 0, 0, 0, 1), BAD);
        bare("gives(0, 0, 0, 0)", x -> x.gives(0, 0, 0, 0), BAD);
        bare("gives(0, 0, 0, 1)", x -> x.gives(0, 0, 0, 1), BAD);
        bare("kind(0)", x -> x.kind(0), BAD);
        bare("as(0, 0)", x -> x.as(0, 0), BAD);
        bare("ask(0, 0)", x -> x.ask(0, 0), BAD);
    }

    // ---- what is refused, call by call

    private static void rows() {
        due.says("What is refused, or found, changes nothing but status().");
        refused("row(8, 3, -1)", x -> x.row(NO_ROW, 3, -1), BAD);
        refused("row(-1, 0, 3)", x -> x.row(-1, 0, 3), BAD);
        refused("row(0, 3, 3)", x -> x.row(BYTES, 3, 3), BAD);
        refused("row(0, -1, 3)", x -> x.row(BYTES, -1, 3), BAD);
        refused("row(0, 1, 41)", x -> x.row(BYTES, 1, 41), BAD);
        refused("row(0, 3, -1)", x -> x.row(BYTES, 3, -1), BAD);
        refused("row(0, 1, -1)", x -> x.row(BYTES, 1, -1), SIZE);
        refused("row(4, 1, -1)", x -> x.row(MISSING, 1, -1), SIZE);
        refused("set(8, 0, 1)", x -> x.set(NO_ROW, 0, 1), BAD);
        refused("set(-1, -1, 1)", x -> x.set(-1, -1, 1), BAD);
        refused("set(4, 0, 1)", x -> x.set(MISSING, 0, 1), NULL);
        refused("set(4, -1, 1)", x -> x.set(MISSING, -1, 1), NULL);
        refused("set(0, -1, 1)", x -> x.set(BYTES, -1, 1), PLACE);
        refused("set(0, 3, 1)", x -> x.set(BYTES, 3, 1), PLACE);
        refused("set(3, 0, 1)", x -> x.set(EMPTY, 0, 1), PLACE);
        refused("drop(8)", x -> x.drop(NO_ROW), BAD);
        refused("drop(-1)", x -> x.drop(-1), BAD);
        refused("drop(4)", x -> x.drop(MISSING), NULL);
        copies();
    }

    private static void copies() {
        refused("copy of no row", x -> x.copy(NO_ROW, 0, BYTES, 0, 1), BAD);
        refused("copy to no row", x -> x.copy(BYTES, 0, -1, 0, 1), BAD);
        refused("copy of a missing one to no row", x -> x.copy(MISSING, -1, NO_ROW, 0, 1), BAD);
        refused("copy of a missing one", x -> x.copy(MISSING, 0, BYTES, 0, 1), NULL);
        refused("copy to a missing one", x -> x.copy(BYTES, 0, MISSING, 0, 1), NULL);
        refused("copy of none to itself", x -> x.copy(MISSING, 0, MISSING, 0, 0), NULL);
        refused("copy beyond, to a missing one", x -> x.copy(BYTES, 9, MISSING, 0, 1), NULL);
        refused("copy by two lanes", x -> x.copy(BYTES, 0, SHORTS, 0, 1), STORE);
        refused("copy by two other lanes", x -> x.copy(INTS, 0, SHORTS, 0, 1), STORE);
        refused("copy of none by two lanes", x -> x.copy(BYTES, 0, INTS, 0, 0), STORE);
        refused("copy beyond by two lanes", x -> x.copy(BYTES, 9, INTS, 0, 1), STORE);
        refused("copy of fewer than none by two lanes", x -> x.copy(BYTES, 0, INTS, 0, -1), STORE);
        refused("copy from below 0", x -> x.copy(BYTES, -1, BYTES, 0, 1), PLACE);
        refused("copy to below 0", x -> x.copy(BYTES, 0, BYTES, -1, 1), PLACE);
        refused("copy of fewer than none", x -> x.copy(BYTES, 1, BYTES, 1, -1), PLACE);
        refused("copy from beyond the end", x -> x.copy(BYTES, 1, BYTES, 0, 3), PLACE);
        refused("copy to beyond the end", x -> x.copy(BYTES, 0, BYTES, 1, 3), PLACE);
        refused("copy of none from beyond", x -> x.copy(BYTES, 4, BYTES, 0, 0), PLACE);
        refused("copy of none to beyond", x -> x.copy(BYTES, 0, BYTES, 4, 0), PLACE);
        refused("copy into an empty one", x -> x.copy(BYTES, 0, EMPTY, 0, 1), PLACE);
    }

    private static void told() {
        due.says("A byte (0 to 255) comes behind the tape: how many it has. BAD; FULL.");
        refused("feed(-1)", x -> x.feed(-1), BAD);
        refused("feed(256)", x -> x.feed(256), BAD);
        LavaLodger full = new LavaLodger();
        for (int i = 0; i < 90; i++) {
            full.feed('v');
        }
        List<Integer> was = Seen.of(full);
        due.is("the 91st", full.feed('v'), FULL);
        due.is("BAD ahead of FULL, below", full.feed(-1), BAD);
        due.is("BAD ahead of FULL, above", full.feed(256), BAD);
        due.is("nothing changes", Seen.of(full).equals(was));
        due.says("-1000100 less the place of a FAULT: all stays.");
        LavaLodger x = busy();
        was = Seen.of(x);
        due.is("v7 alone", x.street(), -1000100 - 2);
        due.is("status() stays", x.status(), 2);
        due.is("the tape is empty", x.count(8), 0);
        due.is("the fault is another", x.fault(), 1);
        x.feed('v');
        x.feed('7');
        List<Integer> then = Seen.of(x);
        due.is("else all stays", then.subList(1, then.size()).equals(was.subList(1, was.size())));
        staysBusy("a street with a fault", x, then);
    }

    private static void done() {
        due.says("n DAYS (1 to 24), an ACT each: who is STONE then (bits). BAD;");
        refused("days(0)", x -> x.days(0), BAD);
        refused("days(25)", x -> x.days(25), BAD);
        due.says("A WALL (0 to 9): what it was. BAD.");
        refused("wall(3, 0)", x -> x.wall(NO_ROOM, 0), BAD);
        refused("wall(-1, 0)", x -> x.wall(-1, 0), BAD);
        refused("wall(2, 10)", x -> x.wall(2, 10), BAD);
        refused("wall(2, -1)", x -> x.wall(2, -1), BAD);
        due.says("CARRIED: where it is then (as AHEAD tells). BAD; STATE: it does not stand.");
        refused("carry(3)", x -> x.carry(NO_THING), BAD);
        refused("carry(-1)", x -> x.carry(-1), BAD);
        refused("carry one that is STONE", x -> x.carry(IS_STONE), STATE);
        refused("carry one that is OUT", x -> x.carry(IS_OUT), STATE);
        due.says("FEED (0 to 20): what it was. BAD;");
        refused("feeding(-1)", x -> x.feeding(-1), BAD);
        refused("feeding(21)", x -> x.feeding(21), BAD);
        due.says("Dug out: who is STONE then (bits). BAD; STATE: it is not STONE.");
        refused("dig(3)", x -> x.dig(NO_THING), BAD);
        refused("dig(-1)", x -> x.dig(-1), BAD);
        refused("dig one that stands", x -> x.dig(STANDS), STATE);
        refused("dig one that is OUT", x -> x.dig(IS_OUT), STATE);
        due.says("What is refused, or found, changes nothing but status().");
        refused("thing(0, 3)", x -> x.thing(0, 3), BAD);
        refused("thing(3, 0)", x -> x.thing(NO_THING, 0), BAD);
        refused("roomOf(0, 5)", x -> x.roomOf(0, 5), BAD);
        refused("roomOf(3, 0)", x -> x.roomOf(NO_ROOM, 0), BAD);
        refused("stand(6)", x -> x.stand(6), BAD);
        refused("image(2)", x -> x.image(2), BAD);
        refused("image(-1)", x -> x.image(-1), BAD);
        refused("restore(2)", x -> x.restore(2), BAD);
        refused("restore(-1)", x -> x.restore(-1), BAD);
        atTheLastDay();
    }

    private static void atTheLastDay() {
        due.says("FULL: DAY would be above 999.");
        LavaLodger x = Due.told(STREET);
        for (int k = 0; k < 41; k++) {
            x.days(24);
        }
        due.is("day 984", x.count(3), 984);
        List<Integer> was = Seen.of(x);
        due.is("days(16)", x.days(16), FULL);
        due.is("days(24)", x.days(24), FULL);
        due.is("BAD ahead of FULL", x.days(25), BAD);
        due.is("nothing changes", Seen.of(x).equals(was));
        due.is("days(15)", x.days(15) >= 0);
        due.is("day 999", x.count(3), 999);
        was = Seen.of(x);
        due.is("days(1)", x.days(1), FULL);
        due.is("BAD ahead of FULL, at 0", x.days(0), BAD);
        due.is("nothing changes then", Seen.of(x).equals(was));
        due.is("what is foretold goes beyond", x.ahead(0, 60) >= 0 && x.lava(0, 60) >= 0);
        due.is("undo()", x.undo(), 23);
        due.is("days(1) is that again", x.days(1) >= 0);
        due.is("day 999 again", x.count(3), 999);
    }

    private static void foretold() {
        due.says("What is refused, or found, changes nothing but status().");
        refused("ahead(3, 0)", x -> x.ahead(NO_THING, 0), BAD);
        refused("ahead(0, 61)", x -> x.ahead(0, 61), BAD);
        refused("lava(3, 0)", x -> x.lava(NO_ROOM, 0), BAD);
        refused("lava(0, 61)", x -> x.lava(0, 61), BAD);
        refused("kept(61, 0)", x -> x.kept(61, 0), BAD);
        refused("kept(0, 2)", x -> x.kept(0, 2), BAD);
        refused("when(0, 3)", x -> x.when(0, 3), BAD);
        refused("front(61)", x -> x.front(61), BAD);
        refused("carries(5, 0, 0)", x -> x.carries(5, 0, 0), BAD);
        refused("carries(1, 21, 0)", x -> x.carries(1, 21, 0), BAD);
        refused("carries(1, 0, -2)", x -> x.carries(1, 0, -2), BAD);
        refused("dam(10, 1, 0)", x -> x.dam(10, 1, 0), BAD);
        refused("dam(1, 41, 0)", x -> x.dam(1, 41, 0), BAD);
        refused("dam(1, 1, 2)", x -> x.dam(1, 1, 2), BAD);
        refused("hold(3, 0, 1)", x -> x.hold(NO_ROOM, 0, 1), BAD);
        refused("hold(0, 3, 1)", x -> x.hold(0, NO_ROOM, 1), BAD);
        refused("hold(0, 0, 41)", x -> x.hold(0, 0, 41), BAD);
        refused("spare(41)", x -> x.spare(41), BAD);
        refused("sets(55, 0)", x -> x.sets(55, 0), BAD);
        refused("sets(0, 3)", x -> x.sets(0, 3), BAD);
        refused("share(3, 0)", x -> x.share(NO_THING, 0), BAD);
        refused("share(2, 1000)", x -> x.share(IS_OUT, 1000), BAD);
        refused("byTurns(5, 1)", x -> x.byTurns(5, 1), BAD);
        refused("byTurns(0, 21)", x -> x.byTurns(0, 21), BAD);
        refused("gives(3, 1, 1, 0)", x -> x.gives(NO_THING, 1, 1, 0), BAD);
        refused("gives(0, 41, 1, 1)", x -> x.gives(0, 41, 1, 1), BAD);
        refused("gives(0, 1, 11, 0)", x -> x.gives(0, 1, 11, 0), BAD);
        refused("gives(0, 1, 1, 2)", x -> x.gives(0, 1, 1, 2), BAD);
        refused("drawn(61, 1, 0)", x -> x.drawn(61, 1, 0), BAD);
        refused("drawn(1, 0, 0)", x -> x.drawn(1, 0, 0), BAD);
        refused("drawn(1, 1000000, 0)", x -> x.drawn(1, 1000000, 0), BAD);
    }

    private static void byRows() {
        due.says("BAD: THING, which, ROW, n; STATE: it does not stand; NULL; PLACE.");
        refused("who of no thing", x -> x.who(NO_THING, 0, MISSING, 9, 1), BAD);
        refused("who of one that is STONE, by no which", x -> x.who(IS_STONE, 3, 0, 0, 1), BAD);
        refused("who of one that is STONE, by no row", x -> x.who(IS_STONE, 0, 8, 0, 1), BAD);
        refused("who of one that is OUT, for no day", x -> x.who(IS_OUT, 0, 0, 0, 0), BAD);
        refused("who by a missing row, for 13 days", x -> x.who(0, 0, MISSING, 0, 13), BAD);
        refused("who of one that is STONE", x -> x.who(IS_STONE, 0, 0, 0, 1), STATE);
        refused("who of one that is OUT", x -> x.who(IS_OUT, 0, 0, 0, 1), STATE);
        refused("who of one that is STONE, missing", x -> x.who(IS_STONE, 0, 4, 0, 1), STATE);
        refused("who of one that is OUT, beyond", x -> x.who(IS_OUT, 0, 0, 9, 1), STATE);
        refused("who by a missing row", x -> x.who(0, 0, MISSING, 0, 1), NULL);
        refused("who by a missing row, beyond", x -> x.who(0, 0, MISSING, -1, 1), NULL);
        refused("who below 0", x -> x.who(0, 0, 0, -1, 1), PLACE);
        refused("who beyond the end", x -> x.who(0, 0, 0, 0, 4), PLACE);
        refused("who by an empty row", x -> x.who(0, 0, EMPTY, 0, 1), PLACE);
        refused("who at the end", x -> x.who(0, 2, 0, 3, 1), PLACE);
        due.says("BAD: ROOM, which, ROW, n; NULL; PLACE.");
        refused("feeds of no room", x -> x.feeds(NO_ROOM, 0, MISSING, 9, 1), BAD);
        refused("feeds by no which", x -> x.feeds(0, 3, MISSING, 9, 1), BAD);
        refused("feeds by no row", x -> x.feeds(0, 0, NO_ROW, 9, 1), BAD);
        refused("feeds for no day", x -> x.feeds(0, 0, MISSING, 9, 0), BAD);
        refused("feeds for 13 days", x -> x.feeds(0, 0, MISSING, 9, 13), BAD);
        refused("feeds by a missing row", x -> x.feeds(0, 0, MISSING, 0, 1), NULL);
        refused("feeds by a missing row, beyond", x -> x.feeds(0, 1, MISSING, -1, 12), NULL);
        refused("feeds below 0", x -> x.feeds(0, 0, 0, -1, 1), PLACE);
        refused("feeds beyond the end", x -> x.feeds(0, 1, 0, 0, 4), PLACE);
        refused("feeds by an empty row", x -> x.feeds(0, 2, EMPTY, 0, 1), PLACE);
        refused("feeds at the end", x -> x.feeds(0, 2, 0, 3, 1), PLACE);
    }

    private static void asked() {
        due.says("BAD; KIND: it is no such one.");
        refused("kind(3)", x -> x.kind(NO_THING), BAD);
        refused("as(3, 6)", x -> x.as(NO_THING, 6), BAD);
        refused("as(3, 0)", x -> x.as(NO_THING, 0), BAD);
        refused("as(0, 6)", x -> x.as(0, 6), BAD);
        refused("as(0, -1)", x -> x.as(0, -1), BAD);
        refused("a chair as a person", x -> x.as(0, 4), KIND);
        refused("a chair as a clock", x -> x.as(0, 2), KIND);
        refused("ask(3, 0)", x -> x.ask(NO_THING, 0), BAD);
        refused("ask(0, 2)", x -> x.ask(0, 2), BAD);
        refused("ask(0, -1)", x -> x.ask(0, -1), BAD);
        refused("trace(-1)", x -> x.trace(-1), NONE);
        refused("trace(16)", x -> x.trace(16), NONE);
        refused("count(9)", x -> x.count(9), BAD);
        refused("count(-1)", x -> x.count(-1), BAD);
    }

    // ---- what is foretold, or asked

    private static void nothingChanges() {
        due.says("FORETOLD (nothing changes).");
        for (int n : new int[] {0, 1, 7, 60}) {
            silent("ahead", x -> x.ahead(0, n), 2);
            silent("lava", x -> x.lava(1, n), 2);
            silent("kept", x -> x.kept(n, 0), 2);
            silent("kept OUT", x -> x.kept(n, 1), 2);
            silent("front", x -> x.front(n), 2);
            silent("drawn", x -> x.drawn(n, 5, 0), 2);
            silent("drawn OUT", x -> x.drawn(n, 999999, 1), 2);
        }
        for (int how = 0; how <= 2; how++) {
            int what = how;
            silent("when", x -> x.when(0, what), 2);
            silent("when STONE", x -> x.when(IS_STONE, what), 2);
            silent("sets", x -> x.sets(3, what), 2);
            silent("carries", x -> x.carries(4, 20, what), 2);
            silent("who", x -> x.who(0, what, 0, 0, 3), 0);
            silent("feeds", x -> x.feeds(0, what, 1, 0, 3), 0);
        }
        silent("carries, how many", x -> x.carries(1, 0, -1), 2);
        silent("dam", x -> x.dam(9, 40, 0), 2);
        silent("dam, how many", x -> x.dam(1, 1, 1), 2);
        silent("hold", x -> x.hold(2, 0, 40), 2);
        silent("spare", x -> x.spare(40), 2);
        silent("share", x -> x.share(IS_OUT, 999), 2);
        silent("byTurns", x -> x.byTurns(4, 20), 2);
        silent("gives", x -> x.gives(0, 40, 3, 0), 2);
        silent("gives, below", x -> x.gives(0, 40, 3, 1), 2);
        silent("kind", x -> x.kind(0), 2);
        silent("as", x -> x.as(0, 1), 0);
        silent("fault", x -> x.fault(), 2);
        silent("status", x -> x.status(), 2);
    }
}
