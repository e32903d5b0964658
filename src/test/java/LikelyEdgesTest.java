/**
 * The boundary cases that the Terms name for what is guessed by a row, for what is likely, for
 * YEARS and for IMAGES, each under the sentence of the document that names it.
 */
public final class LikelyEdgesTest {
    private static final int NONE = -1000000, STATE = -1000002, PLACE = -1000012;
    private static final int OUT = 20, STONE = 30;
    private static final int ALL_KINDS = 62, ALL_HIGHS = 1022, ALL_FLOORS = 1023;
    private static final int TOO_BIG = Integer.MAX_VALUE, TOO_SMALL = Integer.MIN_VALUE;
    private static final String STEPS = "r9;r8;r7;r6;r5;r4;r3;r2;r1;r0;";

    private static final Due due = new Due();

    public static void main(String[] args) {
        kinds();
        highs();
        rooms();
        rowsOfTwelve();
        floors();
        feeds();
        lavaOfTwelve();
        fractions();
        wallsThatGive();
        manyWalls();
        draws();
        drawsOfThings();
        years();
        images();
        due.end();
    }

    // Tables do not go on on DAY 1, so what is fed then tells by itself what becomes of them.
    private static LavaLodger onDayOne(int feed, String things) {
        LavaLodger x = Due.told("v0,60;r0;r0;r0;" + things);
        x.days(1);
        x.feeding(feed);
        return x;
    }

    private static void tell(LavaLodger x, int row, int i, int... items) {
        for (int d = 0; d < items.length; d++) {
            x.set(row, i + d, items[d]);
        }
    }

    private static int whoBy(LavaLodger x, int which, int... items) {
        x.row(0, 2, items.length);
        tell(x, 0, 0, items);
        return x.who(0, which, 0, 0, items.length);
    }

    private static int feedsBy(LavaLodger x, int room, int which, int... items) {
        x.row(0, 2, items.length);
        tell(x, 0, 0, items);
        return x.feeds(room, which, 0, 0, items.length);
    }

    // ---- of which kind one is, how high, where it stood

    private static void kinds() {
        due.says("KINDS (bits 1 to 5), HIGHS (1 to 9, bits), ROOMS (bits) of it now, if it stands, by "
                + "which it is so.");
        // Lava of 1 lies in ROOM 0 behind a DAY, and in no other.
        for (char sort : "cltpa".toCharArray()) {
            LavaLodger own = Due.told("v1,1;r0;r0;r0;" + sort + "0,9;");
            due.is(sort + " goes by one", whoBy(own, 0, 1), 2 + 8 + 16);
            due.is(sort + " goes by two", whoBy(own, 0, 2), 4 + 32);
            due.is(sort + " stays", whoBy(own, 0, 0), 0);
            LavaLodger two = Due.told("v1,1;r0;r0;r0;" + sort + "2,9;");
            due.is(sort + " stays two behind", whoBy(two, 0, 2), 2 + 4 + 8);
            due.is(sort + " goes out from there", whoBy(two, 0, OUT), 16 + 32);
            due.is(sort + " is kept there", whoBy(two, 0, STONE + 2), 0);
        }
        LavaLodger dry = Due.told("v0,0;r0;r0;r0;c1,9;");
        due.is("all of them", whoBy(dry, 0, 1, 1, 1), ALL_KINDS);
        due.is("none of them", whoBy(dry, 0, 1, 1, 2), 0);
        LavaLodger odd = onDayOne(1, "c0,9;");
        due.is("a table stays on an odd day", whoBy(odd, 0, 0), 8);
    }

    private static void highs() {
        due.about("HIGHS (1 to 9, bits)");
        LavaLodger x = onDayOne(5, "t0,9;");
        x.wall(0, 9);
        due.is("kept in 5", whoBy(x, 1, STONE), 2 + 4 + 8 + 16 + 32);
        due.is("not kept in 5", whoBy(x, 1, 0), 64 + 128 + 256 + 512);
        due.is("neither", whoBy(x, 1, 1), 0);
        x.feeding(1);
        due.is("kept in 1", whoBy(x, 1, STONE), 2);
        x.feeding(9);
        due.is("kept in 9", whoBy(x, 1, STONE), ALL_HIGHS);
        due.is("not kept in 9", whoBy(x, 1, 0), 0);
        x.feeding(8);
        due.is("not kept in 8", whoBy(x, 1, 0), 512);
        due.is("its own HIGH stays", x.thing(0, 0), 9);
    }

    private static void rooms() {
        due.about("ROOMS (bits) of it now, if it stands");
        LavaLodger x = Due.told("v1,1;r0;r0;r0;c2,9;");
        due.is("comes to 0", whoBy(x, 2, 0), 0);
        due.is("comes to 1", whoBy(x, 2, 1), 1);
        due.is("comes to 2", whoBy(x, 2, 2), 2 + 4);
        due.is("comes out", whoBy(x, 2, OUT), 0);
        LavaLodger ten = Due.told("v0,0;" + STEPS + "c0,9;");
        for (int r = 0; r < 10; r++) {
            due.is("stays in " + r, whoBy(ten, 2, r, r), 1 << r);
        }
        due.is("no such room", whoBy(ten, 2, 10), 0);
        for (int v : new int[] {-1, 19, OUT, 29, STONE, 40, 256, TOO_BIG, TOO_SMALL}) {
            due.is("nowhere by " + v, whoBy(ten, 2, v), 0);
        }
        LavaLodger kept = onDayOne(5, "t2,1;");
        kept.wall(0, 9);
        due.is("kept in room 0", whoBy(kept, 2, STONE), 1);
        ten.wall(0, 1);
        ten.carry(0);
        due.is("of now", ten.thing(0, 1), 1);
        due.is("it stays, whatever is guessed", whoBy(ten, 2, 7) * 100 + ten.thing(0, 1), 12801);
        LavaLodger out = Due.told("v0,0;r0;r0;r0;c2,9;");
        out.carry(0);
        due.is("it does not stand", whoBy(out, 2, OUT), STATE);
    }

    private static void rowsOfTwelve() {
        due.says("behind each of n DAYS (1 to 12) from now on.");
        LavaLodger x = Due.told("v0,0;r0;r0;r0;c1,9;");
        x.row(3, 0, 40);
        tell(x, 3, 28, 1, 1, 1, 1, 1, 1, 1, 1, 1, 1, 1, 1);
        due.is("the last twelve of 40, kinds", x.who(0, 0, 3, 28, 12), ALL_KINDS);
        due.is("the last twelve of 40, highs", x.who(0, 1, 3, 28, 12), ALL_HIGHS);
        due.is("the last twelve of 40, rooms", x.who(0, 2, 3, 28, 12), 2);
        due.is("beyond by one", x.who(0, 0, 3, 29, 12), PLACE);
        due.is("eleven", x.who(0, 0, 3, 29, 11), ALL_KINDS);
        due.is("from one ahead", x.who(0, 0, 3, 27, 12), 0);
        x.set(3, 39, 0);
        due.is("the twelfth is another", x.who(0, 0, 3, 28, 12), 0);
        due.is("the twelfth does not count", x.who(0, 0, 3, 28, 11), ALL_KINDS);
        due.is("it counts by itself", x.who(0, 2, 3, 39, 1), 1);
        due.is("at the end there is none", x.who(0, 2, 3, 40, 1), PLACE);
        // Fed 1 a DAY behind a WALL of 9, ROOM 0 alone is wet for 10 DAYS; the table flees it.
        LavaLodger slow = Due.told("v1,60;r0;r0;r0;r0;r0;t4,9;");
        slow.wall(0, 9);
        slow.row(0, 1, 12);
        tell(slow, 0, 0, 1, 1, 2, 2, 2, 2, 2, 2, 2, 2, 2, 2);
        due.is("as a table from room 0, for ten days", slow.who(0, 2, 0, 0, 10), 1);
        due.is("from now on, not from the first day", dayLater(slow), 2);
    }

    // On DAY 1 a table in ROOM 1 stays, on DAY 2 it goes on.
    private static int dayLater(LavaLodger slow) {
        slow.days(1);
        return slow.who(0, 2, 0, 1, 9);
    }

    // ---- how high a floor is, how much was fed

    private static void floors() {
        due.says("Or LAVA of a ROOM: FLOORS (0 to 9, bits) of that ROOM; FEEDS (0 to 20): how many; the "
                + "least; NONE.");
        LavaLodger x = Due.told("v4,60;r0;r5;r0;c2,9;");
        due.is("1 in room 1 behind a day", feedsBy(x, 1, 0, 1), 1);
        due.is("0 in room 1 behind a day", feedsBy(x, 1, 0, 0), ALL_FLOORS - 1);
        due.is("2 in room 1 behind a day", feedsBy(x, 1, 0, 2), 0);
        due.is("its own floor stays", x.roomOf(1, 0), 5);
        LavaLodger dry = Due.told("v0,0;r0;r5;r0;c2,9;");
        for (int r = 0; r < 3; r++) {
            due.is("no lava in room " + r, feedsBy(dry, r, 0, 0, 0), ALL_FLOORS);
            due.is("lava in room " + r, feedsBy(dry, r, 0, 0, 1), 0);
        }
        // ROOM 0 keeps 4 if its floor is 5 lower than that of ROOM 1 or so: 9 is the highest.
        LavaLodger first = Due.told("v4,60;r0;r9;r0;c2,9;");
        due.is("4 in room 0", feedsBy(first, 0, 0, 4), 64 - 1 + 64);
        due.is("3 in room 0", feedsBy(first, 0, 0, 3), 128 + 256);
        due.is("2 in room 0", feedsBy(first, 0, 0, 2), 512);
    }

    private static void feedsAre(LavaLodger x, int room, int lava, int many, int least) {
        due.is(lava + " in room " + room + ", how many", feedsBy(x, room, 1, lava), many);
        due.is(lava + " in room " + room + ", the least", feedsBy(x, room, 2, lava), least);
    }

    private static void feeds() {
        due.about("FEEDS (0 to 20): how many; the least; NONE");
        // Behind a WALL of 9 ROOM 0 keeps 0 to 10, then 10 11 11 12 12 13 13 14 14 15.
        LavaLodger x = Due.told("v5,60;r0;r0;r0;c2,9;");
        x.wall(0, 9);
        feedsAre(x, 0, 0, 1, 0);
        feedsAre(x, 0, 9, 1, 9);
        feedsAre(x, 0, 10, 2, 10);
        feedsAre(x, 0, 11, 2, 12);
        feedsAre(x, 0, 14, 2, 18);
        feedsAre(x, 0, 15, 1, 20);
        feedsAre(x, 0, 16, 0, NONE);
        feedsAre(x, 0, -1, 0, NONE);
        feedsAre(x, 0, TOO_BIG, 0, NONE);
        feedsAre(x, 0, TOO_SMALL, 0, NONE);
        feedsAre(x, 1, 0, 11, 0);
        due.is("its own FEED stays", x.stand(1), 5);
        LavaLodger over = Due.told("v5,0;r0;r0;r0;c2,9;");
        feedsAre(over, 0, 0, 21, 0);
        feedsAre(over, 0, 1, 0, NONE);
    }

    private static void lavaOfTwelve() {
        due.about("LAVA of a ROOM behind each of n DAYS (1 to 12)");
        LavaLodger x = Due.told("v0,60;r0;r0;r0;c2,9;");
        x.row(1, 1, 40);
        due.is("the last twelve of 40, floors", x.feeds(2, 0, 1, 28, 12), ALL_FLOORS);
        due.is("beyond by one", x.feeds(2, 0, 1, 29, 12), PLACE);
        due.is("eleven", x.feeds(2, 0, 1, 29, 11), ALL_FLOORS);
        x.set(1, 39, 1);
        due.is("the twelfth is another", x.feeds(2, 0, 1, 28, 12), 0);
        due.is("the twelfth does not count", x.feeds(2, 0, 1, 28, 11), ALL_FLOORS);
        // Fed 1 a DAY behind a WALL of 9: 1 to 10, 10 again as 1 goes on, then 11.
        x.wall(0, 9);
        x.row(0, 0, 12);
        tell(x, 0, 0, 1, 2, 3, 4, 5, 6, 7, 8, 9, 10, 10, 11);
        due.is("of twelve, how many", x.feeds(0, 1, 0, 0, 12), 1);
        due.is("of twelve, the least", x.feeds(0, 2, 0, 0, 12), 1);
        x.set(0, 11, 10);
        due.is("of twelve, none", x.feeds(0, 1, 0, 0, 12), 0);
        due.is("of twelve, no least", x.feeds(0, 2, 0, 0, 12), NONE);
        due.is("of eleven", x.feeds(0, 2, 0, 0, 11), 1);
    }

    // ---- GIVE

    private static void fraction(String what, LavaLodger x, int n, int p, long above, long below) {
        due.is(what + ", above", x.gives(0, n, p, 0), above);
        due.is(what + ", below", x.gives(0, n, p, 1), below);
    }

    private static void fractions() {
        due.says("fractions, told as two numbers in lowest terms (0 is 0 by 1).");
        // The table in ROOM 1 is spared on DAY 1 if WALL 0 holds.
        LavaLodger x = onDayOne(9, "t1,1;");
        x.wall(0, 9);
        fraction("0 of 10", x, 1, 0, 1, 1);
        fraction("1 of 10", x, 1, 1, 9, 10);
        fraction("2 of 10", x, 1, 2, 4, 5);
        fraction("3 of 10", x, 1, 3, 7, 10);
        fraction("4 of 10", x, 1, 4, 3, 5);
        fraction("5 of 10", x, 1, 5, 1, 2);
        fraction("6 of 10", x, 1, 6, 2, 5);
        fraction("7 of 10", x, 1, 7, 3, 10);
        fraction("8 of 10", x, 1, 8, 1, 5);
        fraction("9 of 10", x, 1, 9, 1, 10);
        fraction("10 of 10", x, 1, 10, 0, 1);
        fraction("no day", x, 0, 10, 1, 1);
        x.wall(0, 0);
        fraction("no wall", x, 1, 5, 0, 1);
        fraction("no wall, no day", x, 0, 5, 1, 1);
        x.days(1);
        due.is("it is stone", x.count(5), 1);
        fraction("stone, no day", x, 0, 5, 0, 1);
        fraction("stone, 40 days", x, 40, 0, 0, 1);
        x.wall(1, 9);
        fraction("stone, with a wall", x, 40, 5, 0, 1);
        x.dig(0);
        fraction("out", x, 40, 5, 1, 1);
    }

    private static void wallsThatGive() {
        due.says("each WALL that is not 0 is 0 from now on in p of 10 cases, apart");
        // On DAY 1 1 comes to ROOM 2; a WALL of 1 keeps it there, where the table is.
        LavaLodger one = Due.told("v0,60;r0;r1;r1;t2,1;");
        one.days(1);
        one.feeding(5);
        due.is("without a wall it goes on", one.lava(2, 1), 0);
        one.wall(2, 1);
        due.is("a wall of 1 keeps it", one.lava(2, 1), 1);
        fraction("a wall of 1 that is better gone", one, 1, 3, 3, 10);
        fraction("a wall of 1 that surely gives way", one, 1, 10, 1, 1);
        fraction("a wall of 1 that surely holds", one, 1, 0, 0, 1);
        // Either WALL is enough, so both must give way: apart, that is 1 of 100.
        LavaLodger both = onDayOne(9, "t2,1;");
        both.wall(0, 9);
        both.wall(1, 9);
        fraction("either of two", both, 1, 1, 99, 100);
        fraction("either of two, by 5", both, 1, 5, 3, 4);
        fraction("either of two, by 10", both, 1, 10, 0, 1);
        both.wall(2, 9);
        fraction("a third that does not count", both, 1, 1, 99, 100);
        LavaLodger late = Due.told("v1,60;r0;r9;r5;r0;r4;r0;r0;r9;r7;r5;l2,2;");
        int[] walls = {9, 5, 4, 0, 1, 4, 0, 0, 0, 7};
        for (int w = 0; w < 10; w++) {
            late.wall(w, walls[w]);
        }
        // Fed 8 on DAY 0 the WALL holds it; fed 8 on DAY 1, too, 1 comes to the table.
        LavaLodger stops = Due.told("v8,1;r0;r0;r0;t2,1;");
        stops.wall(0, 9);
        fraction("STOP is 1", stops, 2, 0, 1, 1);
        LavaLodger goesOn = Due.told("v8,2;r0;r0;r0;t2,1;");
        goesOn.wall(0, 9);
        fraction("STOP is 2", goesOn, 2, 0, 0, 1);
        fraction("STOP is 2, and the table goes out at once", goesOn, 2, 10, 1, 1);
        due.says("how likely a THING is not STONE behind n DAYS (0 to 40): a fraction.");
        fraction("behind 39", late, 39, 3, 86023, 100000);
        fraction("behind 40", late, 40, 3, 10367, 12500);
    }

    private static void manyWalls() {
        due.says("GIVE by p of 10 (0 to 10)");
        // All 9 ahead must give way, and the last one hold, for 1 to be kept where the table is:
        // 3 to the 9th times 7 cases of 10 to the 10th.
        LavaLodger ten = Due.told("v0,60;r8;r9;r6;r5;r6;r5;r4;r3;r2;r1;t9,1;");
        ten.days(1);
        ten.feeding(20);
        // Of a steady fall WALLS 2 to 8 must give way, and 0 or 1: 3 to the 7th times 51.
        LavaLodger steps = Due.told("v0,60;" + STEPS + "t9,1;");
        steps.days(1);
        steps.feeding(20);
        for (int w = 0; w < 10; w++) {
            ten.wall(w, 9);
            steps.wall(w, 9);
        }
        fraction("ten walls, 3 of 10", ten, 1, 3, 9999862219L, 10000000000L);
        fraction("ten walls, 1 of 10", ten, 1, 1, 9999999991L, 10000000000L);
        fraction("ten walls, 5 of 10", ten, 1, 5, 1023, 1024);
        fraction("ten walls, 0 of 10", ten, 1, 0, 1, 1);
        fraction("ten walls, 10 of 10", ten, 1, 10, 1, 1);
        fraction("a steady fall", steps, 1, 3, 999888463L, 1000000000L);
    }

    // ---- YEARS

    private static void drawnIs(String what, LavaLodger x, int n, int seed, int stone, int out) {
        due.is(what + ", stone", x.drawn(n, seed, 0), stone);
        due.is(what + ", out", x.drawn(n, seed, 1), out);
    }

    private static void draws() {
        due.says("ahead of each X becomes the rest of (X times 16807) by 2147483647; FEED is the rest of "
                + "X by 10, if X by 3 leaves 0;");
        // On DAY 1 the table is kept if as much is fed as it is high; X is 16807 by SEED 1.
        LavaLodger x = onDayOne(9, "t0,9;");
        x.wall(0, 9);
        drawnIs("16807 by 3 leaves 1: FEED stays 9", x, 1, 1, 1, 0);
        drawnIs("33614 by 3 leaves 2: FEED stays 9", x, 1, 2, 1, 0);
        drawnIs("50421 by 3 leaves 0: FEED is 1", x, 1, 3, 0, 0);
        x.feeding(0);
        drawnIs("FEED stays 0", x, 1, 1, 0, 0);
        drawnIs("453789 by 3 leaves 0: FEED is 9", x, 1, 27, 1, 0);
        drawnIs("117649 by 3 leaves 1: FEED stays 0", x, 1, 7, 0, 0);
        LavaLodger low = onDayOne(5, "t0,1;");
        low.wall(0, 9);
        drawnIs("50421: FEED is 1, which is enough", low, 1, 3, 1, 0);
        drawnIs("504210: FEED is 0", low, 1, 30, 0, 0);
        drawnIs("no day", low, 0, 3, 0, 0);
        due.is("FEED stays as it is", low.stand(1), 5);
    }

    private static void drawsOfThings() {
        due.says("the THING that is the rest of X by how many there are, if it is STONE or OUT, stands in "
                + "the ROOM that is the rest of X by how many there are; then the DAY");
        // SEED 999999: X is 1774597664, by 6 leaves 2, by 10 leaves 4, by 3 leaves 2. Fed 20 on
        // DAY 1, ROOMS 0 to 4 and 9 are wet, so that the table is kept in ROOM 4 again.
        LavaLodger out = Due.told("v0,60;" + STEPS + "l5,9;l6,9;t9,1;l7,9;l8,9;l5,9;");
        out.carry(2);
        drawnIs("on day 0 the table goes on", out, 1, 999999, 0, 0);
        out.days(1);
        out.feeding(20);
        drawnIs("out, then stands in room 4", out, 1, 999999, 1, 0);
        // The table that is STONE in ROOM 0 comes to ROOM 1, goes on to 2 on DAY 2, and is kept
        // there on DAY 3, when the 15 that are fed by then come over the WALL.
        LavaLodger stone = onDayOne(5, "t0,1;");
        stone.wall(0, 9);
        stone.days(1);
        due.is("stone in room 0", stone.thing(0, 1), STONE);
        drawnIs("stone, then stands and goes on", stone, 1, 1, 0, 0);
        drawnIs("and is stone again", stone, 2, 1, 1, 0);
        // One that stands stays where it is: SEED 1 has X 16807, by 3 leaves 1.
        LavaLodger stands = Due.told("v1,1;r0;r0;r0;l1,9;l2,9;l2,9;");
        drawnIs("one that stands is not moved", stands, 2, 1, 0, 0);
        // THING 1 comes from THE ROAD to ROOM 1, from there to 2, then OUT: lava lies in ROOM 0.
        LavaLodger again = Due.told("v1,1;r0;r0;r0;l1,9;p2,9;l2,9;");
        again.carry(1);
        drawnIs("from the road to room 1 and on", again, 1, 1, 0, 0);
        drawnIs("and out behind two", again, 2, 1, 0, 1);
        due.is("it is out as it was", again.thing(1, 1), OUT);
    }

    private static void years() {
        due.says("how many became STONE in them, how many OUT.");
        LavaLodger none = Due.told("v0,0;r0;r0;r0;c2,9;");
        none.carry(0);
        drawnIs("who is out ahead of them does not count", none, 0, 1, 0, 0);
        LavaLodger stone = onDayOne(5, "t0,1;l2,9;l2,9;l2,9;l2,9;l2,9;");
        stone.wall(0, 9);
        stone.days(1);
        due.is("one is stone", stone.count(5), 1);
        // 16807 by 6 leaves 1, so that the stone is not drawn.
        drawnIs("who is stone ahead of them does not count", stone, 1, 1, 0, 0);
        // THING 0 alone is drawn each time that it is OUT or STONE: kept in ROOM 1, set into
        // ROOM 1 again and kept in ROOM 2.
        LavaLodger twice = Due.told("v9,60;r0;r0;r0;c0,1;");
        drawnIs("once", twice, 1, 1, 1, 0);
        drawnIs("twice the same one", twice, 2, 1, 2, 0);
        due.says("YEARS of n DAYS (0 to 60)");
        LavaLodger six = Due.told("v6,60;r5;r4;r4;r2;r1;r0;c0,2;l0,3;t1,1;p1,5;a0,4;c2,9;");
        int[][] seeds = {{1, 59, 42, 20}, {1, 60, 43, 20}, {4, 59, 38, 24}, {4, 60, 38, 25},
            {999995, 59, 43, 19}, {999995, 60, 43, 20}, {999999, 59, 37, 24}, {999999, 60, 38, 24}};
        for (int[] s : seeds) {
            drawnIs(s[1] + " days by " + s[0], six, s[1], s[0], s[2], s[3]);
        }
    }

    // ---- IMAGES

    private static void images() {
        due.says("The STREET is as an IMAGE kept it (no ACT can be undone then): 1.");
        LavaLodger x = Due.told("v4,20;r3;r1;r0;c0,3;t1,1;p2,9;");
        due.is("image(0)", x.image(0), 1);
        due.is("no act", x.count(7), 0);
        x.days(1);
        x.wall(1, 5);
        due.is("image(1)", x.image(1), 1);
        due.is("acts stay", x.count(7), 2);
        x.dig(1);
        x.carry(0);
        x.feeding(20);
        due.is("restore(1)", x.restore(1), 1);
        due.is("no act then", x.count(7), 0);
        due.is("undo()", x.undo(), STATE);
        imageOne(x);
        due.is("restore(0)", x.restore(0), 1);
        due.is("all stand", x.stand(3), 7);
        due.is("day 0", x.count(3) + x.count(4) + x.roomOf(1, 2), 0);
        x.days(2);
        due.is("kept anew", x.image(0), 1);
        due.is("the other is as it was", x.restore(1), 1);
        imageOne(x);
        due.is("the first is another", x.restore(0), 1);
        due.is("day 2", x.count(3), 2);
        Due.tell(x, "v0,0;r0;r0;r0;r0;c3,1;");
        due.is("another street", x.count(2), 4);
        due.is("restored in its place", x.restore(1), 1);
        due.is("its rooms", x.count(2), 3);
        imageOne(x);
        Due.tell(x, "v0,0;r");
        due.is("behind a fault", x.restore(1), 1);
        imageOne(x);
        outOfAnImage();
    }

    private static void imageOne(LavaLodger x) {
        due.is("day 1", x.count(3), 1);
        due.is("wall 1", x.roomOf(1, 2), 5);
        due.is("feed", x.stand(1), 4);
        due.is("stop", x.stand(2), 20);
        due.is("lava", x.roomOf(0, 1) * 100 + x.roomOf(1, 1) * 10 + x.roomOf(2, 1), 111);
        due.is("stands", x.thing(0, 1), 1);
        due.is("stone", x.thing(1, 1), STONE + 2);
        due.is("out", x.thing(2, 1), OUT);
    }

    private static void outOfAnImage() {
        due.says("(that in which it stood last, if it is OUT)");
        LavaLodger x = Due.told("v0,0;r0;r0;r0;c2,9;");
        x.carry(0);
        x.image(0);
        Due.tell(x, "v0,0;r0;r0;r0;c0,9;");
        due.is("of another street", x.ask(0, 1), 0);
        x.restore(0);
        due.is("of the image", x.ask(0, 1), 2);
    }
}
