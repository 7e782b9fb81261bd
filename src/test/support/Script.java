import java.lang.reflect.InvocationTargetException;
import java.lang.reflect.Method;
import java.lang.reflect.Modifier;
import java.util.ArrayList;
import java.util.Arrays;
import java.util.HashMap;
import java.util.List;
import java.util.Map;

/**
 * One WeatherGlaze whose calls are told as texts, each with the answer that is due:
 *
 * <pre>
 * potter 3 99 = 0      a call and its answer (a number, or the name of a finding)
 * potter 3 99          a call that must not answer a finding
 * 'lad;old' = 2        THE TAPE is wiped, gets that text, and text() is called
 * tape 'lad;'          THE TAPE gets that text behind it
 * weather 0 1 | go 7   several in one line
 * </pre>
 *
 * MIN and MAX are the least and the most int. At its end a script asks status() for each finding that
 * it was due, and that no more calls were made than the document promises.
 */
public final class Script {
    static final List<String> FINDINGS = List.of("BEYOND", "FULL", "KIND", "NONE", "STATE", "MISSING", "SIZE");
    static final int LOW = -1000001;
    private static final int PROMISED_CALLS = 512;
    private static final Map<String, Method> METHODS = methods();

    private static int wrong = 0;
    private static long asked = 0;

    private final String title;
    private final WeatherGlaze glaze = new WeatherGlaze();
    private final long[] found = new long[FINDINGS.size()];
    private int calls = 0;

    Script(String title) {
        this.title = title;
    }

    /** A whole script on a new object. */
    static void run(String title, String... lines) {
        new Script(title).then(lines).end();
    }

    Script then(String... lines) {
        for (String line : lines) {
            // A text may have any bytes, '|' too.
            String[] steps = line.contains("'") ? new String[] {line} : line.split(" \\| ");
            for (String step : steps) {
                play(step);
            }
        }
        return this;
    }

    private void play(String step) {
        int sign = step.lastIndexOf(" = ");
        String call = sign < 0 ? step : step.substring(0, sign);
        if (call.startsWith("tape ")) {
            feed(quoted(call));
            return;
        }
        if (call.startsWith("'")) {
            ask("wipe");
            feed(quoted(call));
        }
        long got = call.startsWith("'") ? ask("text") : ask(call);
        if (sign < 0) {
            check(call + " is refused", isFinding(got) && !call.startsWith("seed") ? 1 : 0, 0);
            return;
        }
        String due = step.substring(sign + 3);
        if (FINDINGS.contains(due)) {
            found[FINDINGS.indexOf(due)]++;
        }
        check(call, got, number(due));
    }

    private static String quoted(String call) {
        return call.substring(call.indexOf('\'') + 1, call.lastIndexOf('\''));
    }

    private void feed(String text) {
        long had = ask("count 5");
        int at = 0;
        while (at < text.length()) {
            int n = Math.min(4, text.length() - at);
            int bytes = 0;
            for (int i = 0; i < n; i++) {
                bytes = bytes << 8 | text.charAt(at + i);
            }
            at += n;
            check("THE TAPE's bytes", ask("feed " + bytes + " " + n), had + at);
        }
    }

    /** What one call answers. */
    long ask(String call) {
        String[] words = call.trim().split(" +");
        Method method = METHODS.get(words[0]);
        Object[] arguments = new Object[words.length - 1];
        for (int i = 0; i < arguments.length; i++) {
            arguments[i] = (int) number(words[i + 1]);
        }
        calls++;
        asked++;
        try {
            return ((Number) method.invoke(glaze, arguments)).longValue();
        } catch (InvocationTargetException e) {
            fail(call + " threw " + e.getCause());
            return Long.MIN_VALUE;
        } catch (IllegalAccessException e) {
            throw new IllegalStateException(call, e);
        }
    }

    void end() {
        long all = 0;
        for (int which = 0; which < found.length; which++) {
            check("status of " + FINDINGS.get(which), ask("status " + which), found[which]);
            all += found[which];
        }
        check("status of all", ask("status -1"), all);
        checkCalls();
    }

    void checkCalls() {
        check("calls beyond those promised", Math.max(0, calls - PROMISED_CALLS), 0);
    }

    /** status() for all findings and each. */
    List<Long> status() {
        List<Long> told = new ArrayList<>();
        for (int which = -1; which < found.length; which++) {
            told.add(ask("status " + which));
        }
        return told;
    }

    void check(String what, long got, long due) {
        if (got != due) {
            fail(what + " answered " + got + ", due is " + due);
        }
    }

    void fail(String what) {
        wrong++;
        System.out.println(title + ": " + what);
    }

    static boolean isFinding(long answer) {
        return answer <= LOW && answer > LOW - FINDINGS.size();
    }

    static long number(String word) {
        if (FINDINGS.contains(word)) {
            return LOW - FINDINGS.indexOf(word);
        }
        switch (word) {
            case "MIN": return Integer.MIN_VALUE;
            case "MAX": return Integer.MAX_VALUE;
            default: return Long.parseLong(word);
        }
    }

    private static Map<String, Method> methods() {
        Map<String, Method> methods = new HashMap<>();
        Arrays.stream(WeatherGlaze.class.getDeclaredMethods())
            .filter(m -> Modifier.isPublic(m.getModifiers()))
            .forEach(m -> methods.put(m.getName(), m));
        return methods;
    }

    /** Ends the test: exit code 1 if an answer was not the one that is due. */
    static void report() {
        System.out.println(asked + " answers, " + wrong + " not as due");
        if (wrong != 0) {
            System.exit(1);
        }
    }
}
