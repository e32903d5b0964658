import java.util.ArrayList;
import java.util.List;

/** Texts with faults at hazard, read a second time apart from the class: first cut, then walked. */
public final class TapeTest {
    private static final int TEXTS = 40000;
    private static final String LETTERS = "vrcltpa,;0123456789bz \u00e9";

    private static final Due due = new Due();
    private static long seed = 7;

    /** A token, or what is none ('?'); its first byte; its value, if it is a number ('n'). */
    private record Token(char type, int place, int value) {
    }

    // As much as there can be, and as little, told in both ways in which a NUMBER can be.
    private static final String LONGEST = "v20,60;r09;r08;r07;r06;r05;r04;r03;r02;r01;r00;"
            + "c09,09;l08,08;t07,07;p06,06;a05,05;c04,04;";
    private static final String SHORTEST = "v0,0;r0;r0;r0;c0,1;";

    public static void main(String[] args) {
        everyEnd(LONGEST);
        everyEnd(SHORTEST);
        everyByte(LONGEST);
        everyByte(SHORTEST);
        everyNumber();
        atHazard();
        due.end();
    }

    // At the end of a text, and in the midst of it: there the fault must not be told further on.
    private static void everyByte(String text) {
        for (int at = 0; at <= text.length(); at++) {
            for (int letter = 0; letter < 256; letter++) {
                asRead(text.substring(0, at) + (char) letter);
                if (at < text.length()) {
                    asRead(text.substring(0, at) + (char) letter + text.substring(at + 1));
                }
            }
        }
    }

    private static void everyEnd(String text) {
        for (int bytes = 0; bytes <= text.length(); bytes++) {
            asRead(text.substring(0, bytes));
        }
    }

    private static void everyNumber() {
        String[][] around = {{"v", ",0;r0;r0;r0;c0,1;"}, {"v0,", ";r0;r0;r0;c0,1;"},
            {"v0,0;r", ";r0;r0;c0,1;"}, {"v0,0;r0;r0;r", ";c0,1;"}, {"v0,0;r0;r0;r0;c", ",1;"},
            {"v0,0;r0;r0;r0;c2,", ";"}, {"v0,0;r0;r0;r0;r0;r0;r0;r0;r0;r0;r0;a", ",9;"}};
        for (String[] parts : around) {
            for (int v = 0; v <= 1010; v++) {
                asRead(parts[0] + v + parts[1]);
                asRead(parts[0] + "0" + v + parts[1]);
                asRead(parts[0] + v);
            }
            asRead(parts[0] + parts[1]);
        }
    }

    private static void asRead(String text) {
        int[] fault = read(text);
        due.about(text);
        LavaLodger x = new LavaLodger();
        due.is("street()", Due.tell(x, text), fault[0] == 0 ? things(text) : -1000100 - fault[1]);
        due.is("fault()", x.fault(), fault[0]);
        due.is("count(8)", x.count(8), 0);
        due.is("count(1)", x.count(1), fault[0] == 0 ? things(text) : 0);
    }

    private static void atHazard() {
        int faults = 0;
        int[] numbers = new int[4];
        for (int k = 0; k < TEXTS; k++) {
            String text = text();
            int[] fault = read(text);
            due.about(text);
            LavaLodger x = new LavaLodger();
            int answer = Due.tell(x, text);
            due.is("street()", answer, fault[0] == 0 ? things(text) : -1000100 - fault[1]);
            due.is("fault()", x.fault(), fault[0]);
            due.is("count(8)", x.count(8), 0);
            faults += fault[0] == 0 ? 0 : 1;
            numbers[fault[0]]++;
        }
        due.about("the texts");
        due.is("faults", faults > TEXTS / 10);
        due.is("streets", faults < TEXTS - TEXTS / 10);
        due.is("each fault is", numbers[1] > 500 && numbers[2] > 500 && numbers[3] > 500);
    }

    private static int pick(int below) {
        seed = seed * 6364136223846793005L + 1442695040888963407L;
        return (int) ((seed >>> 33) % below);
    }

    private static String text() {
        StringBuilder text = new StringBuilder("v" + pick(22) + "," + pick(63) + ";");
        int rooms = pick(8) == 0 ? 2 + pick(11) : 3 + pick(6);
        for (int r = 0; r < rooms; r++) {
            text.append("r" + pick(pick(9) == 0 ? 11 : 10) + ";");
        }
        int things = pick(8) == 0 ? pick(9) : 1 + pick(6);
        for (int t = 0; t < things; t++) {
            text.append("cltpa".charAt(pick(5)) + "" + pick(rooms + (pick(9) == 0 ? 1 : 0)) + ","
                    + (1 + pick(pick(9) == 0 ? 11 : 9)) + ";");
        }
        int hits = pick(3) - 1;
        for (int h = 0; h < hits; h++) {
            int at = pick(text.length());
            char letter = LETTERS.charAt(pick(LETTERS.length()));
            switch (pick(4)) {
                case 0 -> text.insert(at, letter);
                case 1 -> text.deleteCharAt(at);
                case 2 -> text.setLength(at + 1);
                default -> text.setCharAt(at, letter);
            }
        }
        text.setLength(Math.min(90, text.length()));
        return text.toString();
    }

    private static int things(String text) {
        return text.replaceAll("[^cltpa]", "").length();
    }

    private static List<Token> cut(String text) {
        List<Token> tokens = new ArrayList<>();
        int i = 0;
        while (i < text.length()) {
            int from = i;
            while (i < text.length() && text.charAt(i) >= '0' && text.charAt(i) <= '9') {
                i++;
            }
            if (i - from > 2) {
                tokens.add(new Token('?', from, 0));
            } else if (i > from) {
                tokens.add(new Token('n', from, Integer.parseInt(text.substring(from, i))));
            } else {
                char letter = text.charAt(i++);
                boolean is = letter >= 'a' && letter <= 'z' || letter == ',' || letter == ';';
                // 'n' stands for numbers here; as a letter it can stand nowhere either way.
                tokens.add(new Token(is && letter != 'n' ? letter : '?', from, 0));
            }
        }
        tokens.add(new Token('.', text.length(), 0));
        return tokens;
    }

    /** The number of the first fault, 0 without one, and its place. */
    private static int[] read(String text) {
        String due = "v";
        int rooms = 0;
        int things = 0;
        // What a text may go on with is told by the part that it is in and the tokens since.
        StringBuilder since = new StringBuilder();
        for (Token token : cut(text)) {
            if (due.indexOf(token.type()) < 0) {
                return new int[] {1, token.place()};
            }
            if (token.type() == '.') {
                return new int[] {0, 0};
            }
            boolean isThing = "cltpa".indexOf(token.type()) >= 0;
            if (token.type() == 'r' && rooms == 10 || isThing && things == 6) {
                return new int[] {3, token.place()};
            }
            since.append(token.type());
            String part = since.toString();
            if (token.type() == 'n' && !fits(part, token.value(), rooms)) {
                return new int[] {2, token.place()};
            }
            if (token.type() == ';') {
                rooms += part.charAt(0) == 'r' ? 1 : 0;
                things += "cltpa".indexOf(part.charAt(0)) >= 0 ? 1 : 0;
                since.setLength(0);
                due = things > 0 ? "cltpa." : rooms < 3 ? "r" : "rcltpa";
            } else {
                String behind = part.equals("rn") || part.length() == 4 ? ";" : ",";
                due = token.type() == 'n' ? behind : "n";
            }
        }
        throw new IllegalStateException("a text without an end");
    }

    private static boolean fits(String part, int value, int rooms) {
        return switch (part) {
            case "vn" -> value <= 20;
            case "vn,n" -> value <= 60;
            case "rn" -> value <= 9;
            default -> part.length() == 2 ? value < rooms : value >= 1 && value <= 9;
        };
    }
}
