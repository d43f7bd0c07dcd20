import java.lang.reflect.InvocationTargetException;
import java.lang.reflect.Method;
import java.util.Arrays;
import java.util.Comparator;
import java.util.function.IntToLongFunction;
import java.util.function.LongSupplier;

/**
 * What the tests of edges share. Each of their methods whose name begins with p and the number of a promise is a test of
 * its own: it is called once, and what does not hold in it is told under its name.
 */
abstract class Edges {
    private static final int[] REFUSALS = {-1, -2, -3, -5, -6};
    private static String test = "";
    private static int wrong = 0;
    private static int asked = 0;

    static void runAll(Class<?> tests) throws Exception {
        Method[] methods = tests.getDeclaredMethods();
        Arrays.sort(methods, Comparator.comparing(Method::getName));
        int ran = 0;
        for (Method m : methods) {
            if (m.getName().matches("p\\d\\d_.*")) {
                test = m.getName();
                ran++;
                runOne(m);
            }
        }
        System.out.println(wrong == 0 ? ran + " tests with " + asked + " answers hold" : wrong + " answers do not hold");
        if (wrong != 0 || ran == 0) {
            System.exit(1);
        }
    }

    private static void runOne(Method m) throws IllegalAccessException {
        try {
            m.invoke(null);
        } catch (InvocationTargetException thrown) {
            wrong++;
            System.out.println(test + ": " + thrown.getCause());
        }
    }

    static void due(String what, long got, long want) {
        asked++;
        if (got != want) {
            wrong++;
            System.out.println(test + ": " + what + " answered " + got + ", due is " + want);
        }
    }

    private static void same(String what, String got, String want) {
        asked++;
        if (!got.equals(want)) {
            wrong++;
            System.out.println(test + ": " + what + " is " + got + ", was " + want);
        }
    }

    /** The call is REFUSED: it answers by what, status() tells it, its count alone is one more, all else stays. */
    static void refused(IllTonight x, int by, String what, LongSupplier call) {
        String was = state(x);
        int[] counts = refusals(x);
        due(what, call.getAsLong(), by);
        due("status behind " + what, x.status(), by);
        for (int i = 0; i < REFUSALS.length; i++) {
            int more = REFUSALS[i] == by ? 1 : 0;
            due("count of " + REFUSALS[i] + " behind " + what, x.count(7 + i), counts[i] + more);
        }
        same("what stands behind " + what, state(x), was);
    }

    /** The call is taken: it answers as is due, status() is 0, nothing is counted as REFUSED. */
    static void taken(IllTonight x, long want, String what, LongSupplier call) {
        int[] counts = refusals(x);
        due(what, call.getAsLong(), want);
        due("status behind " + what, x.status(), 0);
        same("what is counted behind " + what, Arrays.toString(refusals(x)), Arrays.toString(counts));
    }

    /** The call is none of those that status() tells of: whatever it answers, status and counts stay. */
    static void asks(IllTonight x, long want, String what, LongSupplier call) {
        int status = x.status();
        int[] counts = refusals(x);
        due(what, call.getAsLong(), want);
        due("status behind " + what, x.status(), status);
        same("what is counted behind " + what, Arrays.toString(refusals(x)), Arrays.toString(counts));
    }

    /** As asks(), and nothing else changes either. */
    static void leaves(IllTonight x, long want, String what, LongSupplier call) {
        String was = state(x);
        asks(x, want, what, call);
        same("what stands behind " + what, state(x), was);
    }

    /** A number that may be low .. high: those two are taken, the first beyond on either side is REFUSED, as is any far. */
    static void range(IllTonight x, String what, int low, int high, IntToLongFunction call) {
        for (int beyond : new int[] {low - 1, high + 1, Integer.MIN_VALUE, Integer.MAX_VALUE}) {
            refused(x, -1, what + " " + beyond, () -> call.applyAsLong(beyond));
        }
        for (int edge : new int[] {low, high}) {
            call.applyAsLong(edge);
            due("status behind " + what + " " + edge, x.status(), 0);
        }
    }

    /** The numbers of things there are 0 .. size - 1: the first beyond on either side is REFUSED as none such. */
    static void noSuch(IllTonight x, String what, int low, int size, IntToLongFunction call) {
        for (int beyond : new int[] {low - 1, size, Integer.MIN_VALUE, Integer.MAX_VALUE}) {
            refused(x, -2, what + " " + beyond, () -> call.applyAsLong(beyond));
        }
    }

    /** The same of a call that answers NONE. */
    static void none(IllTonight x, String what, int low, int high, IntToLongFunction call) {
        for (int beyond : new int[] {low - 1, high + 1, Integer.MIN_VALUE, Integer.MAX_VALUE}) {
            asks(x, -1, what + " " + beyond, () -> call.applyAsLong(beyond));
        }
    }

    static int[] refusals(IllTonight x) {
        int[] counts = new int[REFUSALS.length];
        for (int i = 0; i < counts.length; i++) {
            counts[i] = x.count(7 + i);
        }
        return counts;
    }

    /**
     * What can be seen of an object without changing it; what is known of the first three ACTORS and PARTS alone, since an
     * object may be called 512 times at most.
     */
    static String state(IllTonight x) {
        StringBuilder s = new StringBuilder();
        for (int what : new int[] {0, 1, 2, 3, 4, 5, 6, 12, 13, 14, 15}) {
            s.append(x.count(what)).append(' ');
        }
        s.append(x.fault()).append(' ').append(x.forgot()).append(" knows ");
        for (int a = 0; a < Math.min(3, x.count(0)); a++) {
            for (int p = 0; p < Math.min(3, x.count(1)); p++) {
                s.append(x.of(a, p, 0));
            }
        }
        s.append(" night ").append(x.night(0)).append(' ').append(x.changed()).append(' ').append(x.closing(-1));
        s.append(' ').append(x.odds(1)).append(' ').append(x.judge(0)).append(' ').append(x.learn(1, 0));
        s.append(" week ").append(x.week(0, 1)).append(' ').append(x.learnt(0, 0));
        return s.toString();
    }

    /** ACTORS of HEIGHT 150, 151 .., COAT and VOICE as their number; PARTS alike, each in a SCENE of its own. */
    static IllTonight cast(int actors, int parts) {
        IllTonight x = new IllTonight();
        for (int i = 0; i < actors; i++) {
            x.actor(150 + i, i, i, 0);
        }
        for (int i = 0; i < parts; i++) {
            x.part(i, i, 1 << i);
        }
        return x;
    }

    /** A cast in which all KNOW all PARTS so well. */
    static IllTonight knowing(int actors, int parts, int how) {
        IllTonight x = cast(actors, parts);
        for (int a = 0; a < actors; a++) {
            for (int p = 0; p < parts; p++) {
                x.knows(a, p, how);
            }
        }
        return x;
    }

    /** The text's signs, and nothing else, come behind the TAPE. */
    static void type(IllTonight x, String text) {
        int before = x.count(6);
        for (int i = 0; i < text.length(); i += 20) {
            int[] five = new int[5];
            for (int j = 0; j < 20; j++) {
                five[j / 4] = five[j / 4] << 8 | (i + j < text.length() ? text.charAt(i + j) : 'z');
            }
            x.feed(five[0], five[1], five[2], five[3], five[4]);
        }
        due("end of the text '" + text + "'", x.end(before + text.length()), before + text.length());
    }

    static int law(IllTonight x, String text) {
        type(x, text);
        return x.law();
    }

    /** One more LAW, which is in FORCE then. */
    static void rule(IllTonight x, String text) {
        int law = law(x, text);
        due("'" + text + "' is read", law >= 0 ? 1 : 0, 1);
        x.force(law);
    }
}
