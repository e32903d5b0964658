import java.io.IOException;
import java.lang.reflect.Field;
import java.lang.reflect.Method;
import java.lang.reflect.Modifier;
import java.nio.file.Files;
import java.nio.file.Path;
import java.util.ArrayList;
import java.util.List;
import java.util.Set;
import java.util.TreeSet;
import java.util.regex.Matcher;
import java.util.regex.Pattern;

/** The class has the document's face and no other, and keeps to the rules of LANGUAGE.md. */
public final class FaceTest {
    private static final String[] FACE = {
        "int row(int,int,int)", "int set(int,int,int)", "int copy(int,int,int,int,int)",
        "int drop(int)", "int feed(int)", "int street()", "int fault()", "int undo()",
        "int days(int)", "int wall(int,int)", "int carry(int)", "int feeding(int)", "int dig(int)",
        "int thing(int,int)", "int roomOf(int,int)", "int stand(int)", "int ahead(int,int)",
        "int lava(int,int)", "int kept(int,int)", "int when(int,int)", "int front(int)",
        "int carries(int,int,int)", "int dam(int,int,int)", "int hold(int,int,int)",
        "int spare(int)", "int sets(int,int)", "int share(int,int)", "int byTurns(int,int)",
        "int who(int,int,int,int,int)", "int feeds(int,int,int,int,int)",
        "long gives(int,int,int,int)", "int drawn(int,int,int)", "int image(int)",
        "int restore(int)", "int kind(int)", "int as(int,int)", "int ask(int,int)",
        "int trace(int)", "int count(int)", "int status()"};
    private static final String[] CONSTANTS = {"NONE", "BAD", "STATE", "FULL"};
    private static final String[] NOT_USED = {
        "throw", "try", "catch", "synchronized", "assert", "import", "package", "enum", "record",
        "double", "float", "Object", "Random", "Thread", "protected", "volatile", "native",
        "var", "hashCode", "toString", "System\\.(?!arraycopy)\\w+", "\\w+Exact", "->", "::"};
    // All that the class takes from the library; each stands in rule 4.
    private static final Set<String> LIBRARY = Set.of("Math.min", "Math.max", "Integer.bitCount",
            "Integer.numberOfTrailingZeros", "System.arraycopy");
    private static final int LONGEST_METHOD = 60;

    private static final Due due = new Due();

    public static void main(String[] args) throws IOException {
        face();
        classesInside();
        words();
        due.end();
    }

    private static void face() {
        due.about("the face");
        Class<?> face = LavaLodger.class;
        due.is("public", Modifier.isPublic(face.getModifiers()));
        due.is("final", Modifier.isFinal(face.getModifiers()));
        due.is("constructors", face.getDeclaredConstructors().length, 1);
        Set<String> seen = new TreeSet<>();
        for (Method m : face.getDeclaredMethods()) {
            if (!Modifier.isPrivate(m.getModifiers())) {
                due.is(m + " is public", Modifier.isPublic(m.getModifiers()));
                due.is(m + " is not static", !Modifier.isStatic(m.getModifiers()));
                seen.add(told(m));
            }
        }
        due.is("all of the face and no other " + seen, seen.equals(Set.of(FACE)));
        Set<String> constants = new TreeSet<>();
        for (Field f : face.getDeclaredFields()) {
            if (!Modifier.isPrivate(f.getModifiers())) {
                due.is(f + " is a constant", f.getModifiers(),
                        Modifier.PUBLIC | Modifier.STATIC | Modifier.FINAL);
                constants.add(f.getName());
            }
        }
        due.is("the constants", constants.equals(Set.of(CONSTANTS)));
    }

    private static String told(Method m) {
        List<String> types = new ArrayList<>();
        for (Class<?> type : m.getParameterTypes()) {
            types.add(type.getName());
        }
        String given = "(" + String.join(",", types) + ")";
        return m.getReturnType().getName() + " " + m.getName() + given;
    }

    private static void classesInside() {
        due.about("the classes");
        Set<String> names = new TreeSet<>();
        for (String method : FACE) {
            names.add(method.substring(method.indexOf(' ') + 1, method.indexOf('(')));
        }
        List<Class<?>> all = new ArrayList<>(List.of(LavaLodger.class.getDeclaredClasses()));
        due.is("at most 12", all.size() < 12);
        for (Class<?> inside : all) {
            due.is(inside + " is static", Modifier.isStatic(inside.getModifiers()));
            due.is(inside + " is not public", !Modifier.isPublic(inside.getModifiers()));
        }
        all.add(LavaLodger.class);
        for (Class<?> one : all) {
            int fields = 0;
            for (Field f : one.getDeclaredFields()) {
                boolean isStatic = Modifier.isStatic(f.getModifiers());
                fields += isStatic ? 0 : 1;
                due.is(f + " is no static state", !isStatic || Modifier.isFinal(f.getModifiers()));
            }
            due.is(one + " has at most 20 fields", fields <= 20);
            for (Method m : one.getDeclaredMethods()) {
                due.is(m + " takes at most 7", m.getParameterCount() <= 7);
                boolean isFace = one == LavaLodger.class && Modifier.isPublic(m.getModifiers());
                due.is(m + " bears no name of the face", isFace || !names.contains(m.getName()));
            }
        }
    }

    private static void words() throws IOException {
        due.about("the words");
        List<String> lines = Files.readAllLines(Path.of("src/main/java/LavaLodger.java"));
        due.is("no sign beyond 127", String.join("", lines).chars().allMatch(c -> c < 128));
        StringBuilder code = new StringBuilder();
        int begun = -1;
        for (int i = 0; i < lines.size(); i++) {
            String line = lines.get(i).replaceAll("//.*", "");
            if (line.strip().startsWith("*") || line.strip().startsWith("/*")) {
                continue;
            }
            code.append(line).append('\n');
            if (line.matches(" {4}( {4})?[A-Za-z].*\\) \\{") && !line.contains(" class ")) {
                begun = i;
            }
            if (line.matches(" {4}( {4})?\\}") && begun >= 0) {
                due.is("line " + begun + " begins no long method", i - begun < LONGEST_METHOD);
                begun = -1;
            }
        }
        String text = code.toString();
        for (String word : NOT_USED) {
            String pattern = word.matches("\\W+") ? word : "\\b" + word + "\\b";
            due.is("no " + word, text.split(pattern, -1).length, 1);
        }
        due.is("no text", text.indexOf('"'), -1);
        library(text);
        makesNothing(text);
    }

    private static void library(String text) {
        Matcher used = Pattern.compile("\\b(Math|Integer|Long|System|Arrays|String|List)\\.\\w+")
                .matcher(text);
        while (used.find()) {
            due.is(used.group() + " is one of what is used", LIBRARY.contains(used.group()));
        }
    }

    // Every object is made as a field or in a constructor, so that no call makes one.
    private static void makesNothing(String text) {
        boolean inConstructor = false;
        for (String line : text.split("\n")) {
            if (line.matches(" {4}(public | {4})[A-Z]\\w+\\(.*\\) \\{")) {
                inConstructor = true;
            }
            boolean isField = line.matches(" {4}( {4})?(private )?final \\w+(\\[\\])* \\w+ = new .*;");
            due.is("made by a call: " + line, !line.contains(" new ") || isField || inConstructor);
            if (line.matches(" {4}( {4})?\\}")) {
                inConstructor = false;
            }
        }
    }
}
