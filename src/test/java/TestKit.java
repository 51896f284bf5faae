import java.lang.reflect.Method;
import java.lang.reflect.Modifier;
import java.util.Arrays;
import java.util.Comparator;

/** What the tests written by hand share: it is no test itself. */
abstract class TestKit {
    static final int NONE = -1;
    static final int LOW = Integer.MIN_VALUE;
    static final int HIGH = Integer.MAX_VALUE;
    private static int wrong;
    /** Which sentence is looked at, for what is printed. */
    static String about = "";

    static void due(String what, int got, int want) {
        if (got != want) {
            wrong++;
            System.out.println(about + what + " answered " + got + ", due is " + want);
        }
    }

    static void due(String what, boolean got, boolean want) {
        due(what, got ? 1 : 0, want ? 1 : 0);
    }

    static void due(String what, String got, String want) {
        if (!got.equals(want)) {
            wrong++;
            System.out.println(about + what + ":\n  got " + got + "\n  due " + want);
        }
    }

    /** Runs each static method of a class that answers nothing and asks for nothing, so that none is left out. */
    static void runEach(Class<?> tests) throws ReflectiveOperationException {
        Method[] methods = tests.getDeclaredMethods();
        Arrays.sort(methods, Comparator.comparing(Method::getName));
        int run = 0;
        for (Method m : methods) {
            if (m.getParameterCount() == 0 && m.getReturnType() == void.class && Modifier.isStatic(m.getModifiers())
                    && !m.isSynthetic()) {
                about = m.getName() + ": ";
                m.setAccessible(true);
                m.invoke(null);
                run++;
            }
        }
        finish(run + " sentences hold");
    }

    /** Prints how it went; ends with 1 if an answer was wrong. */
    static void finish(String allWell) {
        System.out.println(wrong == 0 ? allWell : wrong + " answers are not as due");
        if (wrong != 0) {
            System.exit(1);
        }
    }

    static SevenUnsaid people(int... weak) {
        SevenUnsaid x = new SevenUnsaid();
        for (int w : weak) {
            x.person(w);
        }
        return x;
    }

    /** Feeds a text to an empty tape. */
    static void feed(SevenUnsaid x, String text) {
        for (int sent = 0; sent < text.length(); sent += 20) {
            int[] five = new int[5];
            for (int k = 0; k < 20; k++) {
                int sign = sent + k < text.length() ? text.charAt(sent + k) : ' ';
                five[k / 4] = five[k / 4] << 8 | sign;
            }
            x.feed(five[0], five[1], five[2], five[3], five[4]);
        }
        x.end(text.length());
    }

    /** Feeds a text to an empty tape and makes it the law. */
    static int law(SevenUnsaid x, String text) {
        feed(x, text);
        return x.text();
    }

    /** The odds of NEXT, 17, for one of weak 30, 4 glasses, at a pace of 9, in a law. */
    static int odds(String text) {
        SevenUnsaid x = people(30);
        x.set(3, 0, 4);
        x.set(4, 0, 17);
        x.set(0, 0, 9);
        due("law '" + text + "'", law(x, text) > 0, true);
        return x.of(0, 3);
    }

    /** A text with a fault: the law that was there stays. */
    static void fault(String text, int kind, int place) {
        SevenUnsaid x = people(30);
        law(x, "err 7;");
        due("text '" + text + "'", law(x, text), NONE);
        due("fault(0) of '" + text + "'", x.fault(0), kind);
        due("fault(1) of '" + text + "'", x.fault(1), place);
        due("the law behind '" + text + "'", x.of(0, 3), 7);
        due("its lines behind '" + text + "'", x.look(11), 1);
    }
}
