import java.lang.reflect.InvocationTargetException;
import java.lang.reflect.Method;
import java.nio.charset.StandardCharsets;
import java.util.Arrays;
import java.util.concurrent.Callable;

/** Counts what is as due, and feeds an object with texts. */
final class Checks {
    static int passed;
    static int failed;

    private Checks() {
    }

    static void is(String what, long got, long due) {
        if (got == due) {
            passed++;
            return;
        }
        failed++;
        System.out.println(what + " answered " + got + ", due is " + due);
    }

    static void same(String what, Object got, Object due) {
        if (got.equals(due)) {
            passed++;
            return;
        }
        failed++;
        System.out.println(what + " answered " + got + ", due is " + due);
    }

    /** What a call answers, or the name of what it throws. */
    static String outcome(Object on, String name, int... arguments) {
        Class<?>[] kinds = new Class<?>[arguments.length];
        Object[] values = new Object[arguments.length];
        for (int i = 0; i < arguments.length; i++) {
            kinds[i] = int.class;
            values[i] = arguments[i];
        }
        try {
            Method method = on.getClass().getDeclaredMethod(name, kinds);
            return method.invoke(on, values).toString();
        } catch (InvocationTargetException e) {
            return e.getCause().getClass().getSimpleName();
        } catch (ReflectiveOperationException e) {
            throw new IllegalStateException("a test's own call can't be made: " + name, e);
        }
    }

    static void raises(String what, Class<? extends RuntimeException> due, Callable<Integer> call) {
        String got;
        try {
            got = "the answer " + call.call();
        } catch (Exception e) {
            if (e.getClass() == due) {
                passed++;
                return;
            }
            got = e.toString();
        }
        failed++;
        System.out.println(what + " gave " + got + ", due is " + due.getSimpleName());
    }

    static void wrong(String what, Callable<Integer> call) {
        raises(what, IllegalArgumentException.class, call);
    }

    static void missing(String what, Callable<Integer> call) {
        raises(what, java.util.NoSuchElementException.class, call);
    }

    /** Puts a text on the TAPE; blanks fill the last twenty bytes. */
    static int tape(WornType x, String text) {
        byte[] all = text.getBytes(StandardCharsets.ISO_8859_1);
        int[] words = new int[(all.length + 19) / 20 * 5];
        byte[] padded = Arrays.copyOf(all, words.length * 4);
        for (int i = 0; i < words.length; i++) {
            words[i] = (padded[4 * i] & 255) << 24 | (padded[4 * i + 1] & 255) << 16
                | (padded[4 * i + 2] & 255) << 8 | padded[4 * i + 3] & 255;
        }
        for (int i = 0; i < words.length; i += 5) {
            x.feed(words[i], words[i + 1], words[i + 2], words[i + 3], words[i + 4]);
        }
        return all.length;
    }

    static int kase(WornType x, String text) {
        return x.kase(tape(x, text));
    }

    static int tongue(WornType x, String text) {
        return x.tongue(tape(x, text));
    }

    static int text(WornType x, String text) {
        return x.text(tape(x, text));
    }

    static WornType made(String kase, String tongue, String... texts) {
        WornType x = new WornType();
        if (kase(x, kase) < 0 || tongue(x, tongue) < 0) {
            throw new IllegalStateException("a test's own texts have a fault at " + x.fault());
        }
        for (String text : texts) {
            if (text(x, text) < 0) {
                throw new IllegalStateException("a test's own text has a fault at " + x.fault());
            }
        }
        return x;
    }
}
