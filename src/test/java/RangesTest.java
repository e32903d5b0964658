/**
 * Every number that a call takes, at both ends of its range: the least and the greatest that are
 * as told, and those beside them that are BAD.
 */
public final class RangesTest {
    private static final int NONE = -1000000, BAD = -1000001, SIZE = -1000014;
    private static final int TOO_BIG = Integer.MAX_VALUE, TOO_SMALL = Integer.MIN_VALUE;
    // As many ROOMS and THINGS as there can be, and as few.
    private static final String MOST =
            "v20,60;r9;r8;r7;r6;r5;r4;r3;r2;r1;r0;c0,2;l1,3;t2,1;p3,5;a4,4;c5,9;";
    private static final String LEAST = "v6,9;r2;r1;r0;c0,2;";
    private static final int WIDEST_TRIED = 300;

    private static final Due due = new Due();
    private static String street = MOST;

    /** A call by one of its numbers; the others are as told. */
    private interface Part {
        long answer(LavaLodger x, int v);
    }

    public static void main(String[] args) {
        rows();
        street = MOST;
        ofThings(5);
        ofRooms(9);
        street = LEAST;
        ofThings(0);
        ofRooms(2);
        done();
        foretold();
        searched();
        asked();
        due.end();
    }

    private static LavaLodger object() {
        LavaLodger x = Due.told(street);
        for (int row = 0; row < 8; row++) {
            x.row(row, 2, 40);
        }
        return x;
    }

    private static void good(String call, Part part, int v) {
        long answer = part.answer(object(), v);
        due.is(call + " by " + v + " is not refused", answer != BAD && answer != SIZE);
    }

    private static void bad(String call, Part part, int v) {
        due.is(call + " by " + v, part.answer(object(), v), BAD);
    }

    private static void badBelow(String call, Part part, int least) {
        bad(call, part, least - 1);
        bad(call, part, least - 2);
        bad(call, part, TOO_SMALL);
        bad(call, part, TOO_SMALL + 1);
    }

    private static void badAbove(String call, Part part, int most) {
        bad(call, part, most + 1);
        bad(call, part, most + 2);
        bad(call, part, most + 256);
        bad(call, part, TOO_BIG);
    }

    private static void goodWithin(String call, Part part, int least, int most) {
        good(call, part, least);
        good(call, part, most);
        for (int v = least; v <= most && v - least < WIDEST_TRIED; v++) {
            good(call, part, v);
        }
    }

    private static void range(String call, Part part, int least, int most) {
        badBelow(call, part, least);
        goodWithin(call, part, least, most);
        badAbove(call, part, most);
    }

    private static void rows() {
        due.says("BAD: ROW, LANE, n above 40; SIZE.");
        range("row(row, ..)", (x, v) -> x.row(v, 0, 1), 0, 7);
        range("row(.., lane, ..)", (x, v) -> x.row(0, v, 1), 0, 2);
        goodWithin("row(.., n)", (x, v) -> x.row(0, 0, v), 0, 40);
        badAbove("row(.., n)", (x, v) -> x.row(0, 0, v), 40);
        for (int n : new int[] {-1, -2, -40, -41, TOO_SMALL + 1, TOO_SMALL}) {
            due.is("row(0, 0, " + n + ")", object().row(0, 0, n), SIZE);
        }
        due.says("BAD: ROW; NULL; PLACE.");
        range("set(row, ..)", (x, v) -> x.set(v, 0, 1), 0, 7);
        due.says("BAD: ROWS; NULL; STORE; PLACE (i, j, n below 0, or beyond an end).");
        range("copy(a, ..)", (x, v) -> x.copy(v, 0, 1, 0, 1), 0, 7);
        range("copy(.., b, ..)", (x, v) -> x.copy(1, 0, v, 0, 1), 0, 7);
        due.says("A ROW is missing from now on: how many ITEMS it had. BAD; NULL.");
        range("drop(row)", (x, v) -> x.drop(v), 0, 7);
        due.says("A byte (0 to 255) comes behind the tape: how many it has. BAD; FULL.");
        range("feed(letter)", (x, v) -> x.feed(v), 0, 255);
    }

    private static void ofThings(int last) {
        due.about("BAD (.. there is no such thing), of THINGS 0 to " + last);
        range("carry(thing)", (x, v) -> x.carry(v), 0, last);
        range("dig(thing)", (x, v) -> x.dig(v), 0, last);
        range("thing(thing, ..)", (x, v) -> x.thing(v, 0), 0, last);
        range("ahead(thing, ..)", (x, v) -> x.ahead(v, 1), 0, last);
        range("when(thing, ..)", (x, v) -> x.when(v, 0), 0, last);
        range("share(thing, ..)", (x, v) -> x.share(v, 9), 0, last);
        range("who(thing, ..)", (x, v) -> x.who(v, 0, 0, 0, 1), 0, last);
        range("gives(thing, ..)", (x, v) -> x.gives(v, 1, 5, 0), 0, last);
        range("kind(one)", (x, v) -> x.kind(v), 0, last);
        range("as(one, ..)", (x, v) -> x.as(v, 0), 0, last);
        range("ask(one, ..)", (x, v) -> x.ask(v, 0), 0, last);
    }

    private static void ofRooms(int last) {
        due.about("BAD (.. there is no such thing), of ROOMS 0 to " + last);
        range("wall(wall, ..)", (x, v) -> x.wall(v, 1), 0, last);
        range("roomOf(room, ..)", (x, v) -> x.roomOf(v, 0), 0, last);
        range("lava(room, ..)", (x, v) -> x.lava(v, 1), 0, last);
        range("hold(room, ..)", (x, v) -> x.hold(v, 0, 1), 0, last);
        range("hold(.., wall, ..)", (x, v) -> x.hold(0, v, 1), 0, last);
        range("feeds(room, ..)", (x, v) -> x.feeds(v, 0, 0, 0, 1), 0, last);
    }

    private static void done() {
        due.says("n DAYS (1 to 24), an ACT each");
        range("days(n)", (x, v) -> x.days(v), 1, 24);
        due.says("A WALL (0 to 9): what it was. BAD.");
        range("wall(.., v)", (x, v) -> x.wall(0, v), 0, 9);
        due.says("FEED (0 to 20): what it was.");
        range("feeding(v)", (x, v) -> x.feeding(v), 0, 20);
        due.says("Of a THING: 0 HIGH, 1 where it is (as AHEAD tells), 2 LAVA in its ROOM (0: OUT).");
        range("thing(.., what)", (x, v) -> x.thing(0, v), 0, 2);
        due.says("Of a ROOM: 0 FLOOR, 1 LAVA, 2 its WALL, 3 who stands in it (bits), 4 who is");
        range("roomOf(.., what)", (x, v) -> x.roomOf(0, v), 0, 4);
        due.says("0 ROOMS, 1 FEED, 2 STOP, 3 who stands (bits), 4 is STONE, 5 is OUT. BAD;");
        range("stand(what)", (x, v) -> x.stand(v), 0, 5);
    }

    private static void foretold() {
        due.says("AHEAD by n DAYS (0 to 60) of a THING");
        range("ahead(.., n)", (x, v) -> x.ahead(0, v), 0, 60);
        due.says("LAVA of a ROOM behind n DAYS (0 to 60).");
        range("lava(.., n)", (x, v) -> x.lava(0, v), 0, 60);
        due.says("KEPT behind n DAYS (0 to 60)");
        range("kept(n, ..)", (x, v) -> x.kept(v, 0), 0, 60);
        range("kept(.., what)", (x, v) -> x.kept(1, v), 0, 1);
        due.says("WHEN touched (how = 0), STONE (1), OUT (2); NONE. BAD.");
        range("when(.., how)", (x, v) -> x.when(0, v), 0, 2);
        due.says("FRONT behind n DAYS (0 to 60)");
        range("front(n)", (x, v) -> x.front(v), 0, 60);
        due.says("SETS of v (0 to 54)");
        range("sets(v, ..)", (x, v) -> x.sets(v, 0), 0, 54);
        range("sets(.., what)", (x, v) -> x.sets(1, v), 0, 2);
        due.says("SHARE of n (0 to 999)");
        range("share(.., n)", (x, v) -> x.share(0, v), 0, 999);
        due.says("A row tells where a THING is (as AHEAD tells) behind each of n DAYS (1 to 12)");
        range("who(.., n)", (x, v) -> x.who(0, 0, 0, 0, v), 1, 12);
        range("feeds(.., n)", (x, v) -> x.feeds(0, 0, 0, 0, v), 1, 12);
        due.says("BAD: THING, which, ROW, n; STATE: it does not stand; NULL; PLACE.");
        range("who(.., which, ..)", (x, v) -> x.who(0, v, 0, 0, 1), 0, 2);
        range("who(.., row, ..)", (x, v) -> x.who(0, 0, v, 0, 1), 0, 7);
        due.says("BAD: ROOM, which, ROW, n; NULL; PLACE.");
        range("feeds(.., which, ..)", (x, v) -> x.feeds(0, v, 0, 0, 1), 0, 2);
        range("feeds(.., row, ..)", (x, v) -> x.feeds(0, 0, v, 0, 1), 0, 7);
    }

    private static void searched() {
        due.says("CARRY for n DAYS (1 to 4), m DAYS (0 to 20)");
        range("carries(n, ..)", (x, v) -> x.carries(v, 0, -1), 1, 4);
        range("carries(.., m, ..)", (x, v) -> x.carries(1, v, -1), 0, 20);
        due.says("BAD: k below -1, too;");
        badBelow("carries(.., k)", (x, v) -> x.carries(1, 0, v), -1);
        goodWithin("carries(.., k)", (x, v) -> x.carries(1, 0, v), -1, TOO_BIG);
        due.says("DAM of v (1 to 9) for n DAYS (1 to 40)");
        range("dam(v, ..)", (x, v) -> x.dam(v, 1, 0), 1, 9);
        range("dam(.., n, ..)", (x, v) -> x.dam(1, v, 0), 1, 40);
        range("dam(.., what)", (x, v) -> x.dam(1, 1, v), 0, 1);
        due.says("HOLD for a ROOM, a WALL, n DAYS (1 to 40)");
        range("hold(.., n)", (x, v) -> x.hold(0, 0, v), 1, 40);
        due.says("SPARE for n DAYS (1 to 40)");
        range("spare(n)", (x, v) -> x.spare(v), 1, 40);
        due.says("TURNS of two, n in all (0 to 4), m DAYS (1 to 20)");
        range("byTurns(n, ..)", (x, v) -> x.byTurns(v, 1), 0, 4);
        range("byTurns(.., m)", (x, v) -> x.byTurns(1, v), 1, 20);
        due.says("GIVE by p of 10 (0 to 10)");
        range("gives(.., p, ..)", (x, v) -> x.gives(0, 1, v, 0), 0, 10);
        due.says("how likely a THING is not STONE behind n DAYS (0 to 40): a fraction.");
        range("gives(.., n, ..)", (x, v) -> x.gives(0, v, 5, 0), 0, 40);
        range("gives(.., what)", (x, v) -> x.gives(0, 1, 5, v), 0, 1);
        due.says("YEARS of n DAYS (0 to 60)");
        range("drawn(n, ..)", (x, v) -> x.drawn(v, 1, 0), 0, 60);
        due.says("YEARS by a SEED (1 to 999999): STONE (what = 0), OUT (1).");
        range("drawn(.., seed, ..)", (x, v) -> x.drawn(1, v, 0), 1, 999999);
        range("drawn(.., what)", (x, v) -> x.drawn(1, 1, v), 0, 1);
    }

    private static void asked() {
        due.says("An IMAGE (0, 1) is kept of the STREET: 1.");
        range("image(k)", (x, v) -> x.image(v), 0, 1);
        range("restore(k)", (x, v) -> x.restore(v), 0, 1);
        due.says("A THING is taken as one of a KIND (0 .. 5)");
        range("as(.., kind)", (x, v) -> x.as(0, v), 0, 5);
        due.says("An ASK (0, 1) of a THING. BAD.");
        range("ask(.., what)", (x, v) -> x.ask(0, v), 0, 1);
        due.says("7 ACTS that can be undone, 8 bytes on the tape. BAD.");
        range("count(what)", (x, v) -> x.count(v), 0, 8);
        due.says("Number i of THE TRACE; NONE.");
        for (int i : new int[] {TOO_SMALL, -2, -1, 0, 15, 16, 17, TOO_BIG}) {
            due.is("trace(" + i + ") without an ask", object().trace(i), NONE);
        }
    }
}
