import java.lang.reflect.Method;
import java.lang.reflect.Modifier;
import java.util.Arrays;
import java.util.Comparator;
import java.util.function.IntSupplier;

/** What the tests of boundary cases share. A test is a static method named p, the promise's number, _ and its case. */
abstract class Checks {
    static final int BIG = Integer.MAX_VALUE, LOW = Integer.MIN_VALUE;
    static final int NONE = -1, BAD = -2, NO = -3, FULL = -4, FEWER = -5, FAR_BAD = -10, FAR_NO = -20;
    private static String test = "";
    private static int asked = 0;
    private static int wrong = 0;

    static void due(String what, long got, long want) {
        asked++;
        if (got != want) {
            wrong++;
            System.out.println(test + ": " + what + " answered " + got + ", due is " + want);
        }
    }

    /** A call that is answered, and so counts in no STATUS. */
    static void taken(AfterYou x, String what, int want, IntSupplier call) {
        asks(x, what, want, call, 0, 0, 0);
    }

    static void bad(AfterYou x, String what, int answer, IntSupplier call) {
        refused(x, what, answer, call, 1, 0, 0);
    }

    static void no(AfterYou x, String what, int answer, IntSupplier call) {
        refused(x, what, answer, call, 0, 1, 0);
    }

    static void full(AfterYou x, String what, IntSupplier call) {
        refused(x, what, FULL, call, 0, 0, 1);
    }

    /** A refused call changes nothing but STATUS, and there what it was refused as. */
    private static void refused(AfterYou x, String what, int answer, IntSupplier call, int bads, int noes, int fulls) {
        long before = x.digest();
        int fault = x.fault();
        asks(x, what, answer, call, bads, noes, fulls);
        due(what + ": the digest behind it", x.digest(), before);
        due(what + ": the fault behind it", x.fault(), fault);
    }

    private static void asks(AfterYou x, String what, int want, IntSupplier call, int bads, int noes, int fulls) {
        int badsBefore = x.status(0);
        int noesBefore = x.status(1);
        int fullsBefore = x.status(2);
        due(what, call.getAsInt(), want);
        due(what + ": refused as BAD", x.status(0) - badsBefore, bads);
        due(what + ": refused as NO", x.status(1) - noesBefore, noes);
        due(what + ": refused as FULL", x.status(2) - fullsBefore, fulls);
    }

    /** A call that only asks: it is answered, and nothing of it stays. */
    static void asksOnly(AfterYou x, String what, int want, IntSupplier call) {
        long before = x.digest();
        taken(x, what, want, call);
        due(what + ": nothing stays", x.digest(), before);
    }

    /** Types a text, eight bytes a call at most. */
    static AfterYou write(AfterYou x, String text) {
        for (int i = 0; i < text.length(); i += 8) {
            int n = Math.min(8, text.length() - i);
            long v = 0;
            for (int k = 0; k < n; k++) {
                v = v << 8 | text.charAt(i + k);
            }
            x.type(v, n);
        }
        return x;
    }

    static AfterYou rewrite(AfterYou x, String text) {
        x.clear();
        return write(x, text);
    }

    static AfterYou book(String text) {
        return write(new AfterYou(), text);
    }

    static AfterYou plain(int... ages) {
        AfterYou x = new AfterYou();
        for (int age : ages) {
            x.person(0, age, 0, 0);
        }
        return x;
    }

    static AfterYou eight() {
        return plain(10, 20, 30, 40, 50, 60, 70, 80);
    }

    static AfterYou queue(AfterYou x, int... people) {
        for (int person : people) {
            x.come(person);
        }
        return x;
    }

    static String times(int n, String text) {
        return text.repeat(n);
    }

    /** Runs the tests of a class; each promise of those told must have one. */
    static void runAll(Class<?> tests, int firstPromise, int lastPromise) throws ReflectiveOperationException {
        Method[] methods = tests.getDeclaredMethods();
        Arrays.sort(methods, Comparator.comparing(Method::getName));
        boolean[] has = new boolean[lastPromise + 1];
        int ran = 0;
        for (Method m : methods) {
            if (!m.getName().matches("p[0-9][0-9]_.*") || !Modifier.isStatic(m.getModifiers())) {
                continue;
            }
            test = m.getName();
            int promise = Integer.parseInt(test.substring(1, 3));
            due("a test of promises " + firstPromise + " to " + lastPromise,
                    promise >= firstPromise && promise <= lastPromise ? 1 : 0, 1);
            if (promise <= lastPromise) {
                has[promise] = true;
            }
            int before = asked;
            m.invoke(null);
            due("asks something", asked > before ? 1 : 0, 1);
            ran++;
        }
        test = tests.getName();
        for (int promise = firstPromise; promise <= lastPromise; promise++) {
            due("promise " + promise + " has a test", has[promise] ? 1 : 0, 1);
        }
        System.out.println(ran + " tests, " + asked + " answers, " + wrong + " not as due");
        if (wrong != 0) {
            System.exit(1);
        }
    }
}
