import java.lang.reflect.Method;
import java.lang.reflect.Modifier;
import java.util.ArrayList;
import java.util.Arrays;
import java.util.Comparator;
import java.util.List;

/** No call throws, whatever it is given and however the object stands. */
public final class WildTest {
    private static final int OBJECTS = 600;
    private static final int CALLS = 500;
    private static final int[] WILD = {
        Integer.MIN_VALUE, Integer.MIN_VALUE + 1, -1000001, -2, -1, 256, 999, 1000, 999999, 1000000,
        Integer.MAX_VALUE - 1, Integer.MAX_VALUE};
    private static final String LETTERS = "vrcltpa,;0123456789x ";

    private static final Due due = new Due();
    private static long seed = 41;

    public static void main(String[] args) throws Exception {
        List<Method> calls = new ArrayList<>();
        for (Method m : LavaLodger.class.getDeclaredMethods()) {
            if (Modifier.isPublic(m.getModifiers())) {
                calls.add(m);
            }
        }
        calls.sort(Comparator.comparing(Method::getName));
        for (int k = 0; k < OBJECTS; k++) {
            due.about("object " + k);
            LavaLodger x = new LavaLodger();
            for (int c = 0; c < CALLS; c++) {
                if (pick(40) == 0) {
                    Due.tell(x, pick(3) == 0 ? noStreet() : someStreet());
                }
                callWildly(x, calls.get(pick(calls.size())));
            }
        }
        due.end();
    }

    private static int pick(int below) {
        seed = seed * 6364136223846793005L + 1442695040888963407L;
        return (int) ((seed >>> 33) % below);
    }

    private static void callWildly(LavaLodger x, Method call) {
        Object[] given = new Object[call.getParameterCount()];
        for (int i = 0; i < given.length; i++) {
            int how = pick(20);
            given[i] = how == 0 ? WILD[pick(WILD.length)] : how < 4 ? pick(100) : pick(7);
        }
        boolean answered = true;
        try {
            call.invoke(x, given);
        } catch (ReflectiveOperationException e) {
            answered = false;
            System.out.println(call.getName() + Arrays.toString(given) + ": " + e.getCause());
        }
        due.is(call.getName(), answered);
    }

    private static String someStreet() {
        StringBuilder text = new StringBuilder("v" + pick(21) + "," + pick(61) + ";");
        int rooms = 3 + pick(8);
        for (int r = 0; r < rooms; r++) {
            text.append("r" + pick(10) + ";");
        }
        int things = 1 + pick(6);
        for (int t = 0; t < things; t++) {
            text.append("cltpa".charAt(pick(5)) + "" + pick(rooms) + "," + (1 + pick(9)) + ";");
        }
        return text.toString();
    }

    private static String noStreet() {
        StringBuilder text = new StringBuilder(someStreet());
        int hits = 1 + pick(3);
        for (int h = 0; h < hits; h++) {
            text.setCharAt(pick(text.length()), LETTERS.charAt(pick(LETTERS.length())));
        }
        text.setLength(pick(text.length() + 1));
        return text.toString();
    }
}
