/**
 * The boundary cases that the Terms name for TEXTS and their FAULTS, each under the sentence of
 * the document that names it; what is due was worked out by hand.
 */
public final class TextEdgesTest {
    private static final int STATE = -1000002, FAULT = -1000100;
    private static final String LAW = "v0,0;", ROOMS = "r0;r0;r0;", THING = "c0,1;";
    private static final String TEN_ROOMS = "r0;r1;r2;r3;r4;r5;r6;r7;r8;r9;";
    private static final String SIX_THINGS = "c0,1;l1,2;t2,3;p0,4;a1,5;c2,6;";

    private static final Due due = new Due();

    public static void main(String[] args) {
        tokens();
        streets();
        laws();
        rooms();
        things();
        firstToken();
        leastOfOneToken();
        runsOfFigures();
        ends();
        moreThanThereIsRoomFor();
        emptyThen();
        latestFault();
        due.end();
    }

    private static void fits(String text, int things) {
        LavaLodger x = new LavaLodger();
        due.is(text, Due.tell(x, text), things);
        due.is(text + ", no fault", x.fault(), 0);
        due.is(text + ", things", x.count(1), things);
        due.is(text + ", the tape is empty", x.count(8), 0);
    }

    private static void faulty(String text, int place, int number) {
        LavaLodger x = new LavaLodger();
        due.is(text, Due.tell(x, text), FAULT - place);
        due.is(text + ", the fault", x.fault(), number);
        due.is(text + ", no street", x.stand(0), STATE);
        due.is(text + ", the tape is empty", x.count(8), 0);
    }

    private static void tokens() {
        due.says("TOKENS: letters a to z (each by itself), NUMBERS (figures, 2 at most), SIGNS , and ; "
                + "nothing else.");
        // The bytes beside those of the TOKENS: no one of them is skipped or read as a TOKEN.
        for (int letter : new int[] {0, 9, 10, 13, 32, 43, 45, 47, 58, 60, 65, 86, 90, 96, 123, 127,
            128, 246, 255}) {
            faulty((char) letter + LAW + ROOMS + THING, 0, 1);
            faulty("v" + (char) letter + "0,0;" + ROOMS + THING, 1, 1);
            faulty("v0" + (char) letter + ",0;" + ROOMS + THING, 2, 1);
            faulty(LAW + (char) letter + ROOMS + THING, 5, 1);
            faulty(LAW + ROOMS + THING + (char) letter, 19, 1);
        }
        // Letters come each by itself; small ones alone; those that begin nothing cannot stand.
        faulty("vv0,0;", 1, 1);
        faulty("V0,0;", 0, 1);
        for (char letter = 'a'; letter <= 'z'; letter++) {
            boolean isThing = "cltpa".indexOf(letter) >= 0;
            if (letter != 'v') {
                faulty(letter + "0,0;" + ROOMS + THING, 0, 1);
            }
            if (letter != 'r') {
                faulty(LAW + letter + "0;", 5, 1);
            }
            if (isThing) {
                fits(LAW + ROOMS + letter + "0,1;", 1);
            } else if (letter != 'r') {
                faulty(LAW + ROOMS + letter + "0,1;", 14, 1);
            }
        }
    }

    private static void streets() {
        due.says("street: law room room room { room } thing { thing }.");
        fits(LAW + ROOMS + THING, 1);
        fits(LAW + TEN_ROOMS + SIX_THINGS, 6);
        faulty(ROOMS + THING, 0, 1);
        faulty(LAW + LAW + ROOMS + THING, 5, 1);
        faulty(LAW + THING, 5, 1);
        faulty(LAW + "r0;" + THING, 8, 1);
        faulty(LAW + "r0;r0;" + THING, 11, 1);
        faulty(LAW + ROOMS, 14, 1);
        faulty(LAW + ROOMS + THING + "r0;", 19, 1);
        faulty(LAW + ROOMS + THING + LAW, 19, 1);
        faulty(LAW + ROOMS + LAW + THING, 14, 1);
    }

    private static void laws() {
        due.says("law: v FEED , STOP ; (0 to 20; 0 to 60).");
        String rest = ROOMS + THING;
        fits("v0,0;" + rest, 1);
        fits("v20,60;" + rest, 1);
        fits("v00,00;" + rest, 1);
        fits("v07,09;" + rest, 1);
        faulty("v21,0;" + rest, 1, 2);
        faulty("v99,0;" + rest, 1, 2);
        faulty("v0,61;" + rest, 3, 2);
        faulty("v20,61;" + rest, 4, 2);
        faulty("v0,99;" + rest, 3, 2);
        faulty("v,0;" + rest, 1, 1);
        faulty("v0,;" + rest, 3, 1);
        faulty("v0;0;" + rest, 2, 1);
        faulty("v0,0," + rest, 4, 1);
        faulty("v0,0r0;" + rest, 4, 1);
        LavaLodger x = Due.told("v20,60;" + rest);
        due.is("FEED 20", x.stand(1), 20);
        due.is("STOP 60", x.stand(2), 60);
    }

    private static void rooms() {
        due.says("room: r FLOOR ; (0 to 9; ROOMS 0, into which it is fed, .. 9, 3 to 10).");
        fits(LAW + "r0;r9;r09;" + THING, 1);
        faulty(LAW + "r10;r0;r0;" + THING, 6, 2);
        faulty(LAW + "r0;r0;r10;" + THING, 12, 2);
        faulty(LAW + "r0;r0;r99;" + THING, 12, 2);
        faulty(LAW + "r;r0;r0;" + THING, 6, 1);
        faulty(LAW + "r0,r0;r0;" + THING, 7, 1);
        faulty(LAW + "r0r0;r0;" + THING, 7, 1);
        LavaLodger x = Due.told("v1,1;r5;r6;r7;r8;r9;r4;r3;r2;r1;r0;" + THING);
        int[] floors = {5, 6, 7, 8, 9, 4, 3, 2, 1, 0};
        for (int r = 0; r < 10; r++) {
            due.is("floor of room " + r, x.roomOf(r, 0), floors[r]);
        }
        x.days(1);
        due.is("fed into room 0", x.roomOf(0, 1), 1);
        due.is("into no other", x.count(4), 1);
    }

    private static void things() {
        due.says("thing: SORT ROOM , HIGH ; (SORT: c a chair, l a clock, t a table, p a person, a an aunt; a "
                + "ROOM; 1 to 9; THINGS 0 .. 5, 6 at most).");
        String street = LAW + ROOMS;
        fits(street + "c2,9;", 1);
        fits(street + "c02,09;", 1);
        faulty(street + "c3,9;", 15, 2);
        faulty(street + "c9,9;", 15, 2);
        faulty(street + "c10,9;", 15, 2);
        fits(LAW + "r0;" + ROOMS + "c3,9;", 1);
        fits(LAW + TEN_ROOMS + "c9,9;", 1);
        faulty(LAW + TEN_ROOMS + "c10,9;", 36, 2);
        faulty(street + "c0,0;", 17, 2);
        faulty(street + "c0,00;", 17, 2);
        faulty(street + "c0,10;", 17, 2);
        faulty(street + "c00,99;", 18, 2);
        faulty(street + "c,1;", 15, 1);
        faulty(street + "c0;1;", 16, 1);
        faulty(street + "c0,;", 17, 1);
        faulty(street + "c0,1,", 18, 1);
        faulty(street + "cc0,1;", 15, 1);
        LavaLodger x = Due.told(street + SIX_THINGS);
        int[] kinds = {1, 2, 3, 4, 5, 1};
        int[] rooms = {0, 1, 2, 0, 1, 2};
        for (int t = 0; t < 6; t++) {
            due.is("kind of thing " + t, x.kind(t), kinds[t]);
            due.is("room of thing " + t, x.thing(t, 1), rooms[t]);
            due.is("high of thing " + t, x.thing(t, 0), t + 1);
        }
    }

    private static void firstToken() {
        due.says("FAULTS, the first TOKEN that has one (its first byte), of one TOKEN the least");
        faulty("v21,61;?", 1, 2);
        faulty("v0,61;r10;", 3, 2);
        faulty("v0,0?r10;", 4, 1);
        faulty(LAW + "r10;?", 6, 2);
        faulty(LAW + "r0;r11;r12;", 9, 2);
        faulty(LAW + ROOMS + "c3,10;", 15, 2);
        faulty(LAW + ROOMS + "c13,10;", 15, 2);
        faulty(LAW + ROOMS + "c02,10;", 18, 2);
        faulty(LAW + ROOMS + THING + "c9,1;", 20, 2);
        faulty(LAW + ROOMS + "?" + SIX_THINGS + THING, 14, 1);
    }

    private static void leastOfOneToken() {
        due.says("1 it cannot stand there, or is none");
        due.says("2 a NUMBER that is not as told;");
        // Not a NUMBER at all, though as a NUMBER it would be too great: 1, not 2.
        faulty("v100,0;", 1, 1);
        faulty("v0,100;", 3, 1);
        faulty(LAW + "r100;", 6, 1);
        faulty(LAW + ROOMS + "c100,1;", 15, 1);
        faulty(LAW + ROOMS + "c0,100;", 17, 1);
        // Where no NUMBER can stand, a great one is 1, too.
        faulty("99", 0, 1);
        faulty("v0,0;99;", 5, 1);
        faulty(LAW + ROOMS + THING + "99;", 19, 1);
        // One too many, but where it cannot stand: 1, not 3.
        faulty(LAW + TEN_ROOMS + THING + "r0;", 40, 1);
        faulty(LAW + ROOMS + SIX_THINGS + "r0;", 44, 1);
    }

    private static void runsOfFigures() {
        due.says("(a run of three figures, at its first; the end: how many bytes there are)");
        faulty("v000,0;", 1, 1);
        faulty("v0000,0;", 1, 1);
        faulty("v010", 1, 1);
        faulty("v0,000;", 3, 1);
        faulty(LAW + "r000;", 6, 1);
        faulty(LAW + ROOMS + "c000,1;", 15, 1);
        faulty(LAW + ROOMS + "c0,001;", 17, 1);
        faulty(LAW + ROOMS + THING + "000", 19, 1);
        faulty("000", 0, 1);
        faulty("v" + "0".repeat(89), 1, 1);
        faulty("v00", 3, 1);
        faulty("v0,00", 5, 1);
    }

    private static void ends() {
        due.about("the end: how many bytes there are");
        String text = "v20,60;r9;r8;r7;p2,9;";
        // A text that ends within a NUMBER has no FAULT there, but behind it.
        for (int bytes = 0; bytes < text.length(); bytes++) {
            faulty(text.substring(0, bytes), bytes, 1);
        }
        fits(text, 1);
        String more = text + "a0,1;";
        for (int bytes = text.length() + 1; bytes < more.length(); bytes++) {
            faulty(more.substring(0, bytes), bytes, 1);
        }
        fits(more, 2);
    }

    private static void moreThanThereIsRoomFor() {
        due.says("3 a room, a thing more than there is room for (its letter).");
        fits(LAW + TEN_ROOMS + THING, 1);
        faulty(LAW + TEN_ROOMS + "r0;" + THING, 35, 3);
        faulty(LAW + TEN_ROOMS + "r", 35, 3);
        faulty(LAW + TEN_ROOMS + "r?", 35, 3);
        faulty(LAW + TEN_ROOMS + "r99;", 35, 3);
        fits(LAW + ROOMS + SIX_THINGS, 6);
        for (char sort : "cltpa".toCharArray()) {
            faulty(LAW + ROOMS + SIX_THINGS + sort, 44, 3);
            faulty(LAW + ROOMS + SIX_THINGS + sort + "9,0;", 44, 3);
        }
        faulty(LAW + ROOMS + SIX_THINGS + ";", 44, 1);
        faulty(LAW + TEN_ROOMS + SIX_THINGS + "a0,1;", 65, 3);
    }

    private static void emptyThen() {
        due.says("The tape, empty then, is read: how many THINGS there are.");
        LavaLodger x = new LavaLodger();
        due.is("an empty tape", x.street(), FAULT);
        due.is("its fault", x.fault(), 1);
        due.is("told", Due.tell(x, LAW + ROOMS + SIX_THINGS), 6);
        due.is("empty then", x.count(8), 0);
        due.is("the first byte of another", x.feed('v'), 1);
        due.is("a fault", x.street(), FAULT - 1);
        due.is("empty then, too", x.count(8), 0);
        due.is("what was read stays", x.count(1), 6);
        due.is("told anew", Due.tell(x, LAW + ROOMS + THING), 1);
        due.is("nothing is left of the one before", x.count(1), 1);
    }

    private static void latestFault() {
        due.says("The number of the latest FAULT; 0 before one.");
        LavaLodger x = new LavaLodger();
        due.is("before one", x.fault(), 0);
        Due.tell(x, LAW + ROOMS + THING);
        due.is("a street has none", x.fault(), 0);
        String[] texts = {"v21", "", LAW + TEN_ROOMS + "r", "v", "v0,61"};
        int[] numbers = {2, 1, 3, 1, 2};
        for (int k = 0; k < texts.length; k++) {
            Due.tell(x, texts[k]);
            due.is("behind " + texts[k], x.fault(), numbers[k]);
            due.is("it is that yet", x.fault(), numbers[k]);
        }
        Due.tell(x, LAW + ROOMS + THING);
        due.is("the latest, behind a street", x.fault(), 2);
    }
}
