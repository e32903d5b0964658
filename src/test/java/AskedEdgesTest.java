/**
 * The boundary cases that the Terms name for KINDS and ASKS, and those of what is counted, each
 * under the sentence of the document that names it; what is due was worked out by hand.
 */
public final class AskedEdgesTest {
    private static final int NONE = -1000000, BAD = -1000001, KIND = -1000013;
    private static final int OUT = 20, STONE = 30;
    private static final String TEN = "v0,60;r9;r8;r7;r6;r5;r4;r3;r2;r1;r0;";

    private static final Due due = new Due();

    public static void main(String[] args) {
        kinds();
        eachBody();
        bodies();
        roomOfOneThatIsOut();
        traces();
        statuses();
        counts();
        due.end();
    }

    private static void kinds() {
        due.says("KINDS of THINGS: 0 THING; 1 CHAIR, a THING; 2 CLOCK, a CHAIR; 3 TABLE, a CHAIR; 4 "
                + "PERSON, a THING; 5 AUNT, a PERSON.");
        LavaLodger x = Due.told(TEN + "c0,1;l0,1;t0,1;p0,1;a0,1;");
        String[] is = {"01", "012", "013", "04", "045"};
        for (int t = 0; t < 5; t++) {
            due.is("kind(" + t + ")", x.kind(t), t + 1);
            for (int kind = 0; kind <= 5; kind++) {
                boolean fits = is[t].indexOf('0' + kind) >= 0;
                due.is("as(" + t + ", " + kind + ")", x.as(t, kind), fits ? t : KIND);
                due.is("status()", x.status(), fits ? 0 : 3);
            }
        }
        due.says("The KIND of a THING, as told (1 to 5).");
        x.carry(1);
        due.is("carried", x.kind(1), 2);
        LavaLodger out = Due.told("v0,60;r0;r0;r0;a2,1;");
        out.carry(0);
        due.is("out", out.kind(0), 5);
        due.is("out, as a person", out.as(0, 4), 0);
        due.is("out, as a chair", out.as(0, 1), KIND);
    }

    private static void asks(LavaLodger x, int one, int what, int answer, int... bodies) {
        String call = "ask(" + one + ", " + what + ")";
        due.is(call, x.ask(one, what), answer);
        for (int i = 0; i < bodies.length; i++) {
            due.is("trace(" + i + ") of " + call, x.trace(i), bodies[i]);
        }
        for (int i = bodies.length; i <= 17; i++) {
            due.is("trace(" + i + ") of " + call, x.trace(i), NONE);
        }
    }

    private static void eachBody() {
        due.says("4 ASKS of THINGS, by BODIES, each of which leaves its number in THE TRACE as it begins (the "
                + "first 16)");
        LavaLodger x = Due.told("v0,60;r0;r0;r0;c1,2;l1,2;t1,2;p1,2;a1,2;");
        due.says("11 of CHAIRS: what 10 gives, and MARK.");
        asks(x, 0, 0, 2 + (0 + 1), 11, 10, 21, 20);
        due.says("12 of CLOCKS: 0 less what 11 gives.");
        asks(x, 1, 0, 0 - (2 + 2 * (1 + 1)), 12, 11, 10, 24, 21, 20);
        due.says("13 of PERSONS: what 10 gives, less 100.");
        asks(x, 3, 0, 2 - 100, 13, 10);
        due.says("14 of AUNTS: what 13 gives, twice.");
        asks(x, 4, 0, 2 * (2 - 100), 14, 13, 10);
        due.says("21 of CHAIRS: what 20 gives, and the ROOM");
        asks(x, 0, 1, 0 + 1, 21, 20);
        due.says("22 of TABLES: what 21 gives, less 1000.");
        asks(x, 2, 1, 2 + 1 - 1000, 22, 21, 20);
        asks(x, 2, 0, 2 + (2 + 1 - 1000), 11, 10, 22, 21, 20);
        due.says("23 of PERSONS: what 20 gives, less SIZE.");
        asks(x, 3, 1, 3 - (2 - 100), 23, 20, 13, 10);
        asks(x, 4, 1, 4 - 2 * (2 - 100), 23, 20, 14, 13, 10);
        due.says("24 of CLOCKS: what 21 gives, twice.");
        asks(x, 1, 1, 2 * (1 + 1), 24, 21, 20);
    }

    private static void bodies() {
        due.says("(Of an ask the BODY told for the KIND begins, else that of the nearest KIND that it is, "
                + "too, else the one that is lent; SIZE, MARK within others are asked of the same "
                + "THING anew.)");
        // The greatest numbers: ROOM 9, HIGH 9; and the least: THING 0, ROOM 0, HIGH 1.
        LavaLodger most = Due.told(TEN + "p9,9;a9,9;c9,9;l9,9;t9,9;c9,1;");
        asks(most, 0, 0, -91, 13, 10);
        asks(most, 0, 1, 91, 23, 20, 13, 10);
        asks(most, 1, 0, -182, 14, 13, 10);
        asks(most, 1, 1, 183, 23, 20, 14, 13, 10);
        asks(most, 2, 0, 20, 11, 10, 21, 20);
        asks(most, 2, 1, 11, 21, 20);
        asks(most, 3, 0, -33, 12, 11, 10, 24, 21, 20);
        asks(most, 3, 1, 24, 24, 21, 20);
        asks(most, 4, 0, -978, 11, 10, 22, 21, 20);
        asks(most, 4, 1, -987, 22, 21, 20);
        asks(most, 5, 1, 14, 21, 20);
        String[] sorts = {"c", "l", "t", "p", "a"};
        int[] sizes = {1, -1, -999, -99, -198};
        int[] marks = {0, 0, -1000, 99, 198};
        for (int k = 0; k < 5; k++) {
            LavaLodger least = Due.told("v0,60;r0;r0;r0;" + sorts[k] + "0,1;");
            due.is("the least " + sorts[k] + ", size", least.ask(0, 0), sizes[k]);
            due.is("the least " + sorts[k] + ", mark", least.ask(0, 1), marks[k]);
        }
    }

    private static void roomOfOneThatIsOut() {
        due.says("what 20 gives, and the ROOM (that in which it stood last, if it is OUT).");
        LavaLodger carried = Due.told("v0,60;r0;r0;r0;c2,9;c0,9;");
        carried.carry(0);
        due.is("carried out of room 2", carried.ask(0, 1), 2);
        carried.carry(1);
        carried.carry(1);
        due.is("carried to room 2", carried.ask(1, 1), 1 + 2);
        carried.carry(1);
        due.is("carried out from there", carried.ask(1, 1), 1 + 2);
        carried.undo();
        carried.undo();
        due.is("back in room 1", carried.ask(1, 1), 1 + 1);
        // FEED 4 makes every ROOM wet: the clocks go by two, out of ROOM 1 and out of ROOM 2.
        LavaLodger clocks = Due.told("v4,60;r0;r0;r0;l1,9;l2,9;l0,9;");
        clocks.days(1);
        due.is("two are out", clocks.stand(5), 3);
        due.is("out of room 1 by two", clocks.ask(0, 1), 2 * 1);
        due.is("out of room 2 by two", clocks.ask(1, 1), 2 * (1 + 2));
        due.is("in room 2", clocks.ask(2, 1), 2 * (2 + 2));
        clocks.undo();
        due.is("back in room 1", clocks.ask(0, 1), 2 * 1);
        due.is("back in room 0", clocks.ask(2, 1), 2 * 2);
        // On DAY 1 the table is kept in ROOM 0.
        LavaLodger table = Due.told("v0,60;r0;r0;r0;t2,9;t0,1;");
        table.days(1);
        table.feeding(4);
        table.days(1);
        due.is("stone", table.thing(1, 1), STONE);
        due.is("stone in room 0", table.ask(1, 1), 1 - 1000);
        due.is("dug out", table.dig(1), 0);
        due.is("it is out", table.thing(1, 1), OUT);
        due.is("dug out of room 0", table.ask(1, 1), 1 - 1000);
        LavaLodger far = Due.told("v0,60;r0;r0;r0;c1,1;");
        far.feeding(20);
        far.days(1);
        due.is("stone in room 2", far.thing(0, 1), STONE + 2);
        due.is("of that room", far.ask(0, 1), 2);
        far.dig(0);
        due.is("dug out of room 2", far.ask(0, 1), 2);
    }

    private static void traces() {
        due.says("THE TRACE is empty ahead of it.");
        LavaLodger x = Due.told(TEN + "l0,9;p0,9;");
        due.is("no ask yet", x.trace(0), NONE);
        asks(x, 0, 0, -9, 12, 11, 10, 24, 21, 20);
        asks(x, 1, 0, -91, 13, 10);
        asks(x, 0, 1, 0, 24, 21, 20);
        x.days(1);
        x.image(0);
        x.undo();
        x.restore(0);
        due.is("it stays", x.trace(0) * 10000 + x.trace(1) * 100 + x.trace(2), 242120);
        due.is("it stays, and no more", x.trace(3), NONE);
        due.is("refused", x.ask(2, 0), BAD);
        due.is("it stays yet", x.trace(0), 24);
        due.says("Number i of THE TRACE; NONE.");
        due.is("below 0", x.trace(-1), NONE);
        due.is("the least", x.trace(Integer.MIN_VALUE), NONE);
        due.is("the greatest", x.trace(Integer.MAX_VALUE), NONE);
    }

    private static void statuses() {
        due.says("Of the latest call with a ROW, or as(), that was not BAD, STATE, FULL: the number of its "
                + "FINDING; 0: it had none, or there was none.");
        int[] findings = {-1000011, -1000012, -1000013, -1000014, -1000015};
        for (int f = 1; f <= 5; f++) {
            for (int then = 0; then < 8; then++) {
                LavaLodger x = Due.told("v0,60;r0;r0;r0;c0,9;");
                x.row(0, 0, 2);
                x.row(1, 1, 2);
                due.is("finding " + f, finding(x, f), findings[f - 1]);
                due.is("status()", x.status(), f);
                due.is("it stays as it is asked", x.status(), f);
                others(x);
                due.is("it stays over other calls", x.status(), f);
                due.is("call " + then + " finds nothing", withoutFinding(x, then) >= NONE);
                due.is("0 behind it", x.status(), 0);
            }
        }
    }

    private static int finding(LavaLodger x, int number) {
        switch (number) {
            case 1:
                return x.set(7, 0, 0);
            case 2:
                return x.set(0, 2, 0);
            case 3:
                return x.as(0, 5);
            case 4:
                return x.row(0, 0, -1);
            default:
                return x.copy(0, 0, 1, 0, 1);
        }
    }

    // Refused calls with a ROW, and calls without one.
    private static void others(LavaLodger x) {
        x.row(8, 0, 1);
        x.set(8, 0, 0);
        x.copy(0, 0, 8, 0, 1);
        x.drop(-1);
        x.who(1, 0, 0, 0, 1);
        x.feeds(3, 0, 0, 0, 1);
        x.as(0, 6);
        x.feed(256);
        x.days(1);
        x.undo();
        x.image(0);
        x.restore(0);
        x.restore(1);
        x.ask(0, 0);
        x.street();
    }

    private static int withoutFinding(LavaLodger x, int which) {
        switch (which) {
            case 0:
                return x.row(0, 0, 0);
            case 1:
                return x.set(0, 0, 0);
            case 2:
                return x.copy(0, 0, 0, 1, 1);
            case 3:
                return x.drop(0);
            case 4:
                return x.who(0, 0, 0, 0, 1);
            case 5:
                return x.feeds(0, 1, 0, 0, 1);
            case 6:
                return x.feeds(0, 2, 0, 1, 1);
            default:
                return x.as(0, 0);
        }
    }

    private static void counts() {
        due.says("How many: 0 ROWS, 1 THINGS, 2 ROOMS, 3 DAY, 4 LAVA of all ROOMS, 5 how many are STONE, 6 "
                + "how many are OUT, 7 ACTS that can be undone, 8 bytes on the tape.");
        LavaLodger x = Due.told(TEN + "t0,1;t0,1;t0,1;t0,1;t0,1;t0,1;");
        for (int row = 0; row < 8; row++) {
            x.row(row, 0, row);
        }
        x.days(1);
        x.feeding(20);
        x.days(1);
        due.is("rows", x.count(0), 8);
        due.is("things", x.count(1), 6);
        due.is("rooms", x.count(2), 10);
        due.is("day", x.count(3), 2);
        due.is("lava: 10 5 2 1 1 0 0 0 0 1", x.count(4), 20);
        due.is("all are stone", x.count(5), 6);
        due.is("none is out", x.count(6), 0);
        due.is("acts", x.count(7), 3);
        due.is("no byte", x.count(8), 0);
        for (int t = 0; t < 6; t++) {
            due.is("who is stone yet", x.dig(t), 63 & ~((2 << t) - 1));
        }
        due.is("none is stone", x.count(5), 0);
        due.is("all are out", x.count(6), 6);
        due.is("acts then", x.count(7), 9);
        for (int k = 1; k <= 90; k++) {
            x.feed(k);
            due.is("bytes", x.count(8), k);
        }
        due.is("stone and out", x.stand(4) * 100 + x.stand(5), 63);
    }
}
