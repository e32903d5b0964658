/**
 * The boundary cases that the Terms name for what is FORETOLD, each under the sentence of the
 * document that names it. Small streets were worked out by hand; those in which just the last
 * DAY of a range counts were looked for with the plain street.
 */
public final class ForetoldEdgesTest {
    private static final int NONE = -1000000, BAD = -1000001;
    private static final int OUT = 20, STONE = 30;
    private static final int TOO_BIG = Integer.MAX_VALUE;

    private static final Due due = new Due();

    public static void main(String[] args) {
        ahead();
        atSixty();
        when();
        front();
        carries();
        carriesNone();
        dam();
        hold();
        spare();
        sets();
        share();
        turns();
        turnsAtTwenty();
        due.end();
    }

    private static LavaLodger flat(int feed, String things) {
        return Due.told("v" + feed + ",60;r0;r0;r0;" + things);
    }

    private static LavaLodger walled(String text, int days, int... walls) {
        LavaLodger x = Due.told(text);
        for (int w = 0; w < walls.length; w++) {
            x.wall(w, walls[w]);
        }
        if (days > 0) {
            x.days(days);
        }
        return x;
    }

    // Tables do not go on on DAY 1, so what is fed then tells by itself what becomes of them.
    private static LavaLodger onDayOne(int feed, String things) {
        LavaLodger x = flat(0, things);
        x.days(1);
        x.feeding(feed);
        return x;
    }

    // ---- where, how much, when

    private static void ahead() {
        due.says("where it is (its ROOM; 20 OUT; 30 and its ROOM: STONE).");
        // Fed 20 on DAY 1, ROOMS 0 to 4 keep 10 5 2 1 1 and ROOM 9 keeps 1.
        LavaLodger x = Due.told("v0,60;r9;r8;r7;r6;r5;r4;r3;r2;r1;r0;"
                + "t0,1;t1,1;t2,1;t3,1;t4,1;t9,1;");
        x.days(1);
        x.feeding(20);
        int[] rooms = {0, 1, 2, 3, 4, 9};
        for (int t = 0; t < 6; t++) {
            due.is("thing " + t + " now", x.ahead(t, 0), rooms[t]);
            due.is("thing " + t + " behind a day", x.ahead(t, 1), STONE + rooms[t]);
            due.is("thing " + t + " behind 60", x.ahead(t, 60), STONE + rooms[t]);
        }
        x.days(1);
        for (int t = 0; t < 6; t++) {
            due.is("stone " + t + " now", x.ahead(t, 0), STONE + rooms[t]);
            due.is("stone " + t, x.thing(t, 1), STONE + rooms[t]);
            due.is("who is stone in room " + rooms[t], x.roomOf(rooms[t], 4), 1 << t);
        }
        x.dig(5);
        due.is("out now", x.ahead(5, 0), OUT);
        due.is("out behind 60", x.ahead(5, 60), OUT);
        due.says("LAVA of a ROOM behind n DAYS (0 to 60).");
        int[] lava = {10, 5, 2, 1, 1, 0, 0, 0, 0, 1};
        for (int r = 0; r < 10; r++) {
            due.is("lava of room " + r + " now", x.lava(r, 0), lava[r]);
        }
    }

    // The 60th DAY is one on which something is, each time.
    private static void atSixty() {
        due.says("AHEAD by n DAYS (0 to 60) of a THING");
        LavaLodger table = walled("v1,60;r4;r0;r9;r8;r0;r0;r0;r5;r2;t4,1;", 0,
                8, 5, 8, 0, 0, 0, 0, 0, 8);
        due.is("behind 59", table.ahead(0, 59), 4);
        due.is("behind 60", table.ahead(0, 60), STONE + 4);
        due.says("LAVA of a ROOM behind n DAYS (0 to 60).");
        due.is("behind 59", table.lava(4, 59), 0);
        due.is("behind 60", table.lava(4, 60), 1);
        due.says("KEPT behind n DAYS (0 to 60): THINGS that are STONE (bits); OUT.");
        due.is("behind 59", table.kept(59, 0), 0);
        due.is("behind 60", table.kept(60, 0), 1);
        due.is("now", table.kept(0, 0), 0);
        LavaLodger aunts = walled("v1,60;r3;r1;r7;r1;r0;r5;r2;t6,1;a5,3;a4,5;", 0,
                9, 4, 4, 8, 0, 7, 0);
        due.is("out behind 59", aunts.kept(59, 1) & 6, 0);
        due.is("out behind 60", aunts.kept(60, 1) & 6, 6);
        due.is("out now", aunts.kept(0, 1), 0);
        for (int k = 0; k < 5; k++) {
            table.days(12);
            aunts.days(12);
        }
        due.is("60 days on, stone", table.kept(0, 0), 1);
        due.is("60 days on, out", aunts.kept(0, 1) & 6, 6);
    }

    private static void when() {
        due.says("behind how many DAYS (0 to 60) first; NONE.");
        LavaLodger table = walled("v1,60;r4;r0;r9;r8;r0;r0;r0;r5;r2;t4,1;", 0,
                8, 5, 8, 0, 0, 0, 0, 0, 8);
        whenIs("a table", table, 0, 60, 60, NONE);
        LavaLodger high = walled("v2,60;r2;r3;r0;r8;r5;r7;r5;r1;r7;t2,6;", 0,
                7, 8, 9, 6, 0, 3, 0, 0, 9);
        due.is("touched, too high to be stone", high.when(0, 0), 60);
        LavaLodger aunt = walled("v1,60;r3;r1;r7;r1;r0;r5;r2;t6,1;a5,3;a4,5;", 0,
                9, 4, 4, 8, 0, 7, 0);
        due.is("out", aunt.when(1, 2), 60);
        LavaLodger late = walled("v3,60;r3;r0;r3;r7;r6;r1;r1;r0;r6;r4;t9,1;", 3,
                4, 4, 8, 5, 5, 0, 0, 4, 0, 5);
        whenIs("one that would be kept behind 61", late, 0, NONE, NONE, NONE);
        late.days(1);
        whenIs("the same a day later", late, 0, 60, 60, NONE);
        LavaLodger lateOut = walled("v2,60;r1;r0;r8;r7;r5;r5;r4;r0;r0;t3,2;", 0,
                7, 8, 7, 0, 2, 7, 0, 3, 0);
        due.is("one that would be out behind 61", lateOut.when(0, 2), NONE);
        lateOut.days(1);
        due.is("the same a day later", lateOut.when(0, 2), 60);
        touched();
    }

    private static void whenIs(String who, LavaLodger x, int thing, int touched, int stone, int out) {
        due.is(who + ", touched", x.when(thing, 0), touched);
        due.is(who + ", stone", x.when(thing, 1), stone);
        due.is(who + ", out", x.when(thing, 2), out);
    }

    private static void touched() {
        due.says("WHEN a THING is touched (there is LAVA in the ROOM in which it stands, or it is "
                + "STONE), STONE, OUT");
        LavaLodger x = onDayOne(5, "t0,5;t0,6;t2,9;");
        x.wall(0, 9);
        whenIs("kept", x, 0, 1, 1, NONE);
        due.is("touched, and stands", x.when(1, 0), 1);
        due.is("far from it, on DAY 3", x.when(2, 0), 3);
        x.days(1);
        whenIs("kept by now", x, 0, 0, 0, NONE);
        due.is("touched by now", x.when(1, 0), 0);
        due.is("is not stone by now", x.when(1, 1) != 0);
        x.carry(2);
        whenIs("out by now", x, 2, NONE, NONE, 0);
        // One that is carried into lava is touched there at once: it lies in ROOM 1 alone.
        LavaLodger into = Due.told("v1,2;r9;r0;r0;t0,9;");
        into.days(2);
        due.is("all lies in room 1", into.roomOf(1, 1) + into.roomOf(0, 1), into.roomOf(1, 1));
        due.is("ahead of it", into.when(0, 0), NONE);
        into.carry(0);
        due.is("carried into it", into.when(0, 0), 0);
        // STONE is touched even where no lava is left: ROOM 0 runs dry over a floor of 9.
        LavaLodger dry = Due.told("v0,60;r9;r9;r0;t1,1;");
        dry.days(1);
        dry.feeding(2);
        dry.wall(1, 9);
        dry.days(1);
        due.is("stone in room 1", dry.thing(0, 1), STONE + 1);
        dry.feeding(0);
        dry.wall(1, 0);
        dry.days(1);
        due.is("no lava there", dry.thing(0, 2), 0);
        due.is("touched as stone", dry.when(0, 0), 0);
    }

    private static void front() {
        due.says("FRONT behind n DAYS (0 to 60): the last ROOM in which there is LAVA (NONE).");
        LavaLodger x = flat(1, "c2,9;");
        due.is("none yet", x.front(0), NONE);
        due.is("room 0", x.front(1), 0);
        due.is("room 1", x.front(2), 1);
        LavaLodger none = flat(0, "c2,9;");
        due.is("never", none.front(60), NONE);
        LavaLodger last = Due.told("v1,1;r9;r8;r7;r6;r5;r4;r3;r2;r1;r0;c0,9;");
        due.is("the last of ten", last.front(1), 9);
        due.is("there alone", last.lava(9, 1) * 10 + last.lava(0, 1), 10);
        LavaLodger now = Due.told("v1,1;r9;r9;r2;c0,9;");
        now.days(1);
        due.is("room 0 now", now.front(0), 0);
        // What lies there on later DAYS is not seen on earlier ones, whichever is asked first.
        LavaLodger ten = Due.told("v20,60;r9;r8;r7;r6;r5;r4;r3;r2;r1;r0;c0,9;");
        due.is("of ten rooms behind 60", ten.front(60), 9);
        due.is("of ten rooms now", ten.front(0), NONE);
        ten.wall(2, 9);
        due.is("of ten rooms behind a wall", ten.front(1), 2);
        LavaLodger away = Due.told("v2,1;r9;r5;r2;c0,9;");
        due.is("all has gone out", away.front(1), NONE);
        LavaLodger burst = walled("v1,60;r4;r0;r9;r8;r0;r0;r0;r5;r2;t4,1;", 0,
                8, 5, 8, 0, 0, 0, 0, 0, 8);
        due.is("behind 60, asked first", burst.front(60), 4);
        due.is("behind 59", burst.front(59), 2);
        due.is("behind 60", burst.front(60), 4);
    }

    // ---- CARRY

    private static void row(String what, LavaLodger x, int n, int m, int many, int... row) {
        due.is(what + ", how many", x.carries(n, m, -1), many);
        for (int k = 0; k < n; k++) {
            due.is(what + ", number " + k, x.carries(n, m, k), row[k]);
        }
        due.is(what + ", beyond", x.carries(n, m, n), NONE);
        due.is(what + ", far beyond", x.carries(n, m, TOO_BIG), NONE);
    }

    private static void carries() {
        due.says("ahead of each of n DAYS one THING (any, or none) is CARRIED, if it stands then (else "
                + "nothing is done); then m DAYS more");
        // On DAY 1 the WALL keeps 5 in ROOM 0: each table that is carried from there is spared.
        LavaLodger three = onDayOne(5, "t0,5;t0,5;t0,5;");
        three.wall(0, 9);
        row("of three tables one is spared", three, 1, 0, 2, 0);
        LavaLodger second = onDayOne(5, "t0,9;t0,5;t2,1;");
        second.wall(0, 9);
        row("the second alone is in danger", second, 1, 0, 0, 1);
        due.says("that row of THINGS (the lesser ahead, none last) by which fewest are STONE behind all, "
                + "of several the first");
        LavaLodger safe = flat(0, "c0,1;c0,1;");
        row("nobody is in danger", safe, 4, 20, 0, 0, 0, 0, 0);
        LavaLodger out = flat(0, "c2,1;");
        out.carry(0);
        row("one that is out", out, 4, 0, 0, 0, 0, 0, 0);
        LavaLodger apart = walled("v3,60;r3;r2;r7;r3;r2;r1;r0;r1;r0;r1;t9,3;t1,3;t7,1;", 1,
                6, 7, 9, 0, 0, 2, 0, 0, 0, 0);
        apart.feeding(17);
        row("each in its turn", apart, 4, 10, 0, 0, 1, 2, 2);
        LavaLodger four = walled("v2,60;r0;r8;r6;r0;r4;r1;r0;r0;r6;c4,1;t1,1;", 4,
                7, 4, 4, 0, 0, 0, 5, 0, 8);
        four.feeding(8);
        row("three are too few", four, 3, 20, 1, 0, 0, 0);
        row("four are enough", four, 4, 19, 0, 1, 1, 0, 1);
        // All six are lost, so that every row is as good: the first, not the one that was asked last.
        LavaLodger six = onDayOne(5, "t0,9;t0,5;t0,9;t0,9;t0,9;t0,9;");
        six.wall(0, 9);
        row("of six one is in danger", six, 1, 0, 0, 1);
        six.feeding(9);
        due.is("all six are stone", six.days(1), 63);
        row("of six none is left", six, 1, 0, 6, 0);
        row("of six none is left for four days", six, 4, 20, 6, 0, 0, 0, 0);
        LavaLodger late = walled("v1,60;r4;r4;r0;r8;r7;r3;t2,1;t5,1;t3,1;", 0, 9, 9, 5, 7, 0, 0);
        late.feeding(6);
        due.is("19 days more", late.carries(4, 19, -1), 0);
        row("20 days more", late, 4, 20, 1, 1, 2, 2, 2);
        LavaLodger one = walled("v3,60;r4;r2;r8;r4;r2;r0;t2,1;t1,1;", 0, 9, 9, 7, 0, 0, 0);
        due.is("of one, 19 days more", one.carries(1, 19, -1), 0);
        row("of one, 20 days more", one, 1, 20, 2, 0);
    }

    private static void carriesNone() {
        due.says("the k-th (0 on; NONE: nothing then, or not so many).");
        LavaLodger first = walled("v1,60;r2;r9;r5;r1;t1,1;", 1, 6, 4, 0, 7);
        first.feeding(20);
        row("none, then it", first, 2, 14, 0, NONE, 0);
        LavaLodger midst = walled("v3,60;r4;r9;r7;r3;r0;r0;t1,1;", 4, 5, 4, 0, 0, 5, 0);
        midst.feeding(5);
        row("none in the midst", midst, 3, 0, 0, 0, NONE, 0);
        LavaLodger never = walled("v3,60;r1;r4;r4;r7;r3;r0;r0;r1;r0;t2,1;", 1,
                9, 8, 5, 4, 0, 0, 0, 0, 7);
        never.feeding(16);
        row("none at all", never, 4, 1, 0, NONE, NONE, NONE, NONE);
        LavaLodger last = walled("v4,60;r1;r7;r4;r2;r4;r1;r0;r0;r0;r0;l1,1;", 1,
                5, 6, 0, 6, 2, 0, 0, 0, 0, 0);
        row("none last", last, 3, 20, 0, 0, 0, NONE);
    }

    // ---- walls and feeding

    private static void dam() {
        due.says("the WALL which, being v from now on, leaves fewest STONE behind them, of several the "
                + "first: which; how many.");
        // On DAY 1 of FEED 9 ROOMS keep 5 2 2; a WALL of 7 or less ahead of ROOM 1 lets 1 on.
        LavaLodger x = onDayOne(9, "t1,1;t1,1;t2,1;");
        damIs("of 9, the first", x, 9, 1, 0, 0);
        damIs("of 8", x, 8, 1, 0, 0);
        damIs("of 7, it keeps one of the two rooms dry", x, 7, 1, 0, 2);
        damIs("of 1", x, 1, 1, 0, 3);
        LavaLodger last = walled("v4,60;r3;r4;r0;r9;r6;r2;r1;r9;r5;r4;t6,1;", 0,
                6, 4, 8, 4, 0, 0, 0, 0, 0, 9);
        damIs("the last of ten", last, 1, 40, 9, 0);
        LavaLodger long1 = walled("v2,60;r1;r8;r7;r4;r3;r7;r5;r2;r0;t4,1;", 3,
                8, 4, 0, 0, 0, 0, 0, 0, 0);
        damIs("of 1 for 39 days", long1, 1, 39, 4, 0);
        damIs("of 1 for 40 days", long1, 1, 40, 0, 1);
        LavaLodger long9 = walled("v2,60;r0;r7;r6;r5;r5;r2;r0;r0;t3,1;t2,1;", 3,
                8, 5, 4, 0, 0, 0, 0, 1);
        damIs("of 9 for 39 days", long9, 9, 39, 3, 0);
        damIs("of 9 for 40 days", long9, 9, 40, 0, 2);
        LavaLodger all = flat(9, "t1,1;t1,1;t1,1;t1,1;t1,1;t1,1;");
        all.days(1);
        due.is("all six are stone", all.count(5), 6);
        damIs("no wall helps them", all, 9, 40, 0, 6);
        // Five are lost anyway, and the sixth, too, but for WALL 1.
        LavaLodger five = onDayOne(9, "t0,1;t0,1;t0,1;t0,1;t0,1;t2,1;");
        damIs("five of six", five, 3, 1, 1, 5);
        LavaLodger lower = onDayOne(9, "t1,1;");
        lower.wall(0, 9);
        damIs("a lower wall in place of a higher one", lower, 1, 1, 1, 0);
    }

    private static void damIs(String what, LavaLodger x, int v, int n, int which, int many) {
        due.is(what + ", which", x.dam(v, n, 0), which);
        due.is(what + ", how many", x.dam(v, n, 1), many);
    }

    private static void hold() {
        due.says("the least that WALL (0 to 9) may be from now on, by which there is no LAVA in the ROOM "
                + "behind them; NONE.");
        due.is("fed 1", flat(1, "c0,9;").hold(1, 0, 1), 0);
        for (int feed = 2; feed <= 10; feed++) {
            due.is("fed " + feed, flat(feed, "c0,9;").hold(1, 0, 1), feed - 1);
        }
        due.is("fed 11", flat(11, "c0,9;").hold(1, 0, 1), NONE);
        due.is("fed 20", flat(20, "c0,9;").hold(1, 0, 1), NONE);
        due.is("fed 1 for 2 days", flat(1, "c0,9;").hold(1, 0, 2), 1);
        due.is("fed 1 for 10 days", flat(1, "c0,9;").hold(1, 0, 10), 9);
        due.is("fed 1 for 11 days", flat(1, "c0,9;").hold(1, 0, 11), NONE);
        // Behind a WALL of 9 and up to a floor of 9 it takes 20 to come on.
        LavaLodger up = Due.told("v1,40;r0;r9;r0;c2,9;");
        due.is("19 days", up.hold(2, 0, 19), 9);
        due.is("20 days", up.hold(2, 0, 20), NONE);
        LavaLodger late = Due.told("v0,60;r0;r0;r0;c2,9;");
        due.is("nothing is fed for 40 days", late.hold(0, 2, 40), 0);
        // All that is fed goes on from ROOM 0, but for a WALL of 4 or more there.
        LavaLodger drains = Due.told("v1,1;r9;r5;r2;c0,9;");
        drains.wall(0, 4);
        due.is("a wall of 4 keeps it in room 0", drains.lava(0, 1), 1);
        due.is("the least is none", drains.hold(0, 0, 1), 0);
        due.is("room 0 itself", flat(1, "c0,9;").hold(0, 0, 1), NONE);
        due.is("the last wall for the first room", flat(1, "c0,9;").hold(0, 2, 40), NONE);
    }

    private static void spare() {
        due.says("the most FEED (0 to 20) from now on by which no THING is STONE behind them but those "
                + "who are now; NONE.");
        for (int high = 1; high <= 9; high++) {
            LavaLodger x = onDayOne(7, "t0," + high + ";");
            x.wall(0, 9);
            due.is("a table of " + high, x.spare(1), high - 1);
        }
        LavaLodger all = onDayOne(7, "t0,1;t2,9;");
        all.wall(0, 9);
        all.days(1);
        due.is("one is stone by now", all.count(5), 1);
        due.is("but those who are now", all.spare(1), 20);
        due.is("twenty", flat(0, "c2,9;").spare(1), 20);
        // 20 held back till DAY 1 come to the table then, whatever is fed.
        LavaLodger none = Due.told("v20,60;r0;r0;r0;r0;r0;t3,1;");
        none.wall(1, 9);
        none.days(1);
        none.wall(1, 0);
        due.is("by none", none.spare(1), NONE);
        LavaLodger least = walled("v1,60;r3;r2;r8;r6;r4;r1;r8;t3,4;t3,1;", 3, 6, 4, 5, 0, 1, 0, 7);
        due.is("39 days", least.spare(39), 1);
        due.is("40 days", least.spare(40), 0);
        LavaLodger more = walled("v2,60;r3;r1;r2;r9;r6;r4;r3;r4;r4;r4;p6,8;t2,2;", 0,
                4, 4, 8, 5, 0, 0, 7, 9, 8, 0);
        due.is("39 other days", more.spare(39), 2);
        due.is("40 other days", more.spare(40), 1);
    }

    // ---- sets and shares

    private static void setsAre(LavaLodger x, int v, int many, int all, int any) {
        due.is("sets(" + v + ", 0)", x.sets(v, 0), many);
        due.is("sets(" + v + ", 1)", x.sets(v, 1), all);
        due.is("sets(" + v + ", 2)", x.sets(v, 2), any);
    }

    private static void sets() {
        due.says("SETS of v (0 to 54): sets of THINGS that stand of HIGH v together: how many; THINGS "
                + "(bits) that are in all of these (none: 0); in any.");
        LavaLodger nines = flat(0, "c0,9;l0,9;t0,9;p0,9;a0,9;c0,9;");
        setsAre(nines, 54, 1, 63, 63);
        setsAre(nines, 53, 0, 0, 0);
        setsAre(nines, 45, 6, 0, 63);
        setsAre(nines, 27, 20, 0, 63);
        setsAre(nines, 9, 6, 0, 63);
        setsAre(nines, 1, 0, 0, 0);
        setsAre(nines, 0, 1, 0, 0);
        LavaLodger apart = flat(0, "c0,1;l0,2;t0,4;p0,8;a0,9;c2,3;");
        setsAre(apart, 8, 2, 0, 1 + 4 + 8 + 32);
        setsAre(apart, 27, 1, 63, 63);
        setsAre(apart, 26, 1, 62, 62);
        setsAre(apart, 25, 1, 61, 61);
        setsAre(apart, 24, 2, 16 + 8 + 4, 63);
        apart.carry(5);
        due.is("one is out", apart.count(6), 1);
        setsAre(apart, 27, 0, 0, 0);
        setsAre(apart, 24, 1, 31, 31);
        setsAre(apart, 3, 1, 3, 3);
        LavaLodger nobody = flat(0, "c2,3;");
        nobody.carry(0);
        setsAre(nobody, 3, 0, 0, 0);
        setsAre(nobody, 0, 1, 0, 0);
        LavaLodger stone = onDayOne(5, "t0,1;t2,2;");
        stone.wall(0, 9);
        stone.days(1);
        due.is("one is stone", stone.stand(4), 1);
        setsAre(stone, 1, 0, 0, 0);
        setsAre(stone, 2, 1, 2, 2);
    }

    private static void shared(String what, LavaLodger x, int n, int... parts) {
        for (int t = 0; t < parts.length; t++) {
            due.is(what + ", share(" + t + ", " + n + ")", x.share(t, n), parts[t]);
        }
    }

    private static LavaLodger allOut(String things) {
        LavaLodger x = flat(0, things);
        for (int t = 0; t < x.count(1); t++) {
            x.carry(t);
        }
        due.is("all are out", x.count(6), x.count(1));
        return x;
    }

    private static void share() {
        due.says("each THING that is OUT gets as many as n times HIGH by all HIGH of these (cut), what is "
                + "over 1 each to the first ones: how many a THING gets (0, if it is not OUT).");
        LavaLodger same = allOut("c2,1;c2,1;c2,1;");
        shared("three alike", same, 0, 0, 0, 0);
        shared("three alike", same, 1, 1, 0, 0);
        shared("three alike", same, 2, 1, 1, 0);
        shared("three alike", same, 3, 1, 1, 1);
        shared("three alike", same, 5, 2, 2, 1);
        shared("three alike", same, 999, 333, 333, 333);
        shared("three alike", same, 998, 333, 333, 332);
        LavaLodger apart = allOut("c2,9;c2,1;");
        shared("9 and 1", apart, 9, 9, 0);
        shared("9 and 1", apart, 10, 9, 1);
        shared("9 and 1", apart, 999, 900, 99);
        LavaLodger first = allOut("c2,1;c2,9;");
        shared("1 and 9", first, 9, 1, 8);
        shared("1 and 9", first, 999, 100, 899);
        LavaLodger six = allOut("c2,9;c2,8;c2,7;c2,6;c2,5;c2,4;");
        shared("six", six, 5, 2, 2, 1, 0, 0, 0);
        shared("six", six, 999, 231, 205, 180, 153, 128, 102);
        LavaLodger one = allOut("c2,7;");
        shared("one alone", one, 999, 999);
        shared("one alone", one, 0, 0);
        shared("the lowest alone", allOut("c2,1;"), 999, 999);
        LavaLodger some = flat(0, "c2,9;c2,1;c0,9;c2,1;");
        shared("none is out", some, 10, 0, 0, 0, 0);
        some.carry(1);
        some.carry(3);
        shared("two of four", some, 7, 0, 4, 0, 3);
        due.is("BAD beyond", some.share(1, 1000), BAD);
        LavaLodger stone = onDayOne(5, "t0,1;t2,2;");
        stone.wall(0, 9);
        stone.days(1);
        stone.carry(1);
        shared("one is stone, one is out", stone, 11, 0, 11);
        stone.dig(0);
        shared("dug out it is out, too", stone, 11, 4, 7);
    }

    // ---- TURNS

    private static void turns() {
        due.says("the aunt has a THING that stands CARRIED, or does nothing, then the dresser makes FEED "
                + "3 more (20 at most), or does nothing, and so on, all now; then m DAYS: how many are "
                + "STONE");
        // On DAY 1 the WALL keeps all that is fed, up to 10, in ROOM 0, where three tables stand.
        turnsAre("high enough for FEED as it is", "t0,5;t0,5;t0,5;", 4, 0, 0, 2, 1, 1);
        turnsAre("FEED is enough as it is", "t0,4;t0,4;t0,4;", 4, 3, 2, 2, 1, 1);
        turnsAre("3 more is just enough", "t0,7;t0,7;t0,7;", 4, 0, 0, 2, 1, 1);
        turnsAre("3 more is not enough", "t0,8;t0,8;t0,8;", 4, 0, 0, 0, 0, 1);
        turnsAre("6 more is just enough", "t0,9;t0,9;t0,9;", 3, 0, 0, 0, 0, 1);
        turnsAre("6 more is not enough", "t0,9;t0,9;t0,9;", 2, 0, 0, 0, 0, 0);
        turnsAre("FEED 0", "t0,3;t0,3;t0,3;", 0, 0, 0, 2, 1, 1);
        turnsAre("six", "t0,7;t0,7;t0,7;t0,7;t0,7;t0,7;", 4, 0, 0, 5, 4, 4);
        turnsAre("six, and the last alone in danger", "t1,9;t1,9;t1,9;t1,9;t1,9;t0,4;", 4, 1, 0, 0, 0, 0);
        due.says("the aunt wants that little, the dresser great: what comes of it.");
        // With FEED 17 and a WALL of 9 ROOM 0 keeps 13 and ROOM 1 has 4; with 20 it has 5.
        LavaLodger most = Due.told("v0,60;r0;r0;r0;t1,5;t1,5;t1,6;");
        most.wall(0, 9);
        most.wall(1, 9);
        most.days(1);
        for (int feed = 17; feed <= 19; feed++) {
            most.feeding(feed);
            due.is("from " + feed + ", but 20 at most", most.byTurns(2, 1), 1);
            due.is("from " + feed + ", twice", most.byTurns(4, 1), 0);
        }
        most.feeding(20);
        due.is("20 as it is", most.byTurns(0, 1), 2);
        due.is("20 at most", most.byTurns(2, 1), 1);
        // To be carried brings the only one into lava: the aunt does nothing.
        LavaLodger still = Due.told("v0,60;r5;r0;r9;t0,2;");
        still.days(1);
        still.feeding(4);
        due.is("no turn", still.byTurns(0, 1), 0);
        due.is("the aunt does nothing", still.byTurns(1, 1), 0);
        LavaLodger stone = onDayOne(5, "t0,1;");
        stone.days(1);
        for (int n = 0; n <= 4; n++) {
            due.is("stone stays, " + n, stone.byTurns(n, 20), 1);
        }
    }

    private static void turnsAre(String what, String tables, int feed, int... stones) {
        LavaLodger x = onDayOne(feed, tables);
        x.wall(0, 9);
        for (int n = 0; n <= 4; n++) {
            due.is(what + ", " + n + " turns", x.byTurns(n, 1), stones[n]);
        }
    }

    private static void turnsAtTwenty() {
        due.says("TURNS of two, n in all (0 to 4), m DAYS (1 to 20)");
        LavaLodger none = walled("v4,60;r0;r2;r7;r8;r7;r8;r6;r5;r5;t6,7;t7,1;", 2,
                9, 7, 8, 1, 0, 0, 0, 0, 2);
        due.is("no turn, 19 days", none.byTurns(0, 19), 0);
        due.is("no turn, 20 days", none.byTurns(0, 20), 1);
        LavaLodger four = walled("v3,60;r4;r4;r3;r8;r2;r5;r7;r3;r1;r0;t6,1;", 0,
                8, 7, 6, 7, 0, 0, 0, 0, 7, 0);
        due.is("four turns, 19 days", four.byTurns(4, 19), 0);
        due.is("four turns, 20 days", four.byTurns(4, 20), 1);
        LavaLodger last = walled("v2,60;r2;r4;r4;r9;r3;r1;r0;t4,1;", 0, 8, 4, 9, 4, 2, 0, 0);
        last.feeding(16);
        due.is("three turns", last.byTurns(3, 10), 0);
        due.is("the dresser has the fourth", last.byTurns(4, 10), 1);
    }
}
