import java.lang.reflect.InvocationTargetException;
import java.lang.reflect.Method;
import java.util.ArrayList;
import java.util.HashMap;
import java.util.List;
import java.util.Map;

/**
 * Runs calls that are written as in the document, "inflow(50) -> 10; fine(0) -> throws X", on one new object.
 * "3 * pass(200) -> 0" stands for three such calls, "-> any" for any answer that is no exception, and IAE, IOOBE, UOE,
 * NSEE, ISE and AE for the exceptions of the document.
 */
final class Script {
    /** Nothing is promised about an object behind its 512th call, so that no script may look further. */
    static final int MOST_CALLS = 512;
    private static final Map<String, Method> METHODS = methods();
    private static final Map<String, String> SHORT_NAMES = Map.of(
            "IAE", "throws IllegalArgumentException", "IOOBE", "throws IndexOutOfBoundsException",
            "UOE", "throws UnsupportedOperationException", "NSEE", "throws NoSuchElementException",
            "ISE", "throws IllegalStateException", "AE", "throws ArithmeticException");
    private static final long MOST_MILLISECONDS = 300_000;
    private static int passed = 0;
    private static int failed = 0;

    static {
        watch();
    }

    private Script() {
    }

    /** Each script begins with a new object; its parts are joined by spaces, so that a row may be in two of them. */
    static void run(String title, String... parts) {
        count(isRunFine(new AcequiaGates(), title, String.join(" ", parts)));
    }

    /** Whether each row of the script, on an object that may have been used, answers what is due. */
    static boolean isRunFine(AcequiaGates ditch, String title, String script) {
        boolean isFine = true;
        int calls = 0;
        for (String row : rows(script)) {
            int arrow = row.lastIndexOf("->");
            String due = row.substring(arrow + 2).trim();
            String[] counted = row.substring(0, arrow).trim().split(" \\* ");
            String call = counted[counted.length - 1];
            int times = counted.length == 1 ? 1 : Integer.parseInt(counted[0]);
            for (int i = 0; i < times; i++) {
                String got = answer(ditch, call);
                if (!isSame(call, got, SHORT_NAMES.getOrDefault(due, due))) {
                    System.out.println(title + ": " + call + " answered " + got + ", due is " + due);
                    isFine = false;
                }
            }
            calls += times * callsOf(call);
        }
        if (calls > MOST_CALLS) {
            System.out.println(title + ": " + calls + " calls are too many");
            isFine = false;
        }
        return isFine;
    }

    private static int callsOf(String call) {
        return call.contains("\"") ? call.lastIndexOf('"') - call.indexOf('"') - 1 : 1;
    }

    /** A call that does not end must fail its test, and not keep the others waiting. */
    private static void watch() {
        Thread watch = new Thread(() -> {
            try {
                Thread.sleep(MOST_MILLISECONDS);
                System.out.println("a call does not end");
            } catch (InterruptedException e) {
                System.out.println("the watch was interrupted");
            }
            Runtime.getRuntime().halt(1);
        });
        watch.setDaemon(true);
        watch.start();
    }

    static void check(String title, boolean isFine) {
        if (!isFine) {
            System.out.println(title + ": not so");
        }
        count(isFine);
    }

    private static void count(boolean isFine) {
        if (isFine) {
            passed++;
        } else {
            failed++;
        }
    }

    /** Prints the counts and ends the program with 1 if something failed. */
    static void close(String test) {
        System.out.println(test + ": " + passed + " passed, " + failed + " failed");
        if (failed > 0 || passed == 0) {
            System.exit(1);
        }
    }

    private static boolean isSame(String call, String got, String due) {
        if (due.equals("any")) {
            return !got.startsWith("throws");
        }
        if (call.startsWith("share") && !due.startsWith("throws") && !got.startsWith("throws")) {
            return Float.parseFloat(got) == Float.parseFloat(due);
        }
        if (call.startsWith("meanThirst") && !due.startsWith("throws") && !got.startsWith("throws")) {
            return Double.parseDouble(got) == Double.parseDouble(due);
        }
        return got.equals(due);
    }

    /** The answer of a call as a text, "throws" and the plain name of the class if it threw something. */
    static String answer(AcequiaGates ditch, String call) {
        int bracket = call.indexOf('(');
        Method method = METHODS.get(call.substring(0, bracket));
        String inside = call.substring(bracket + 1, call.length() - 1);
        if (inside.startsWith("\"")) {
            return answerToText(ditch, method, inside.substring(1, inside.length() - 1));
        }
        Class<?>[] types = method.getParameterTypes();
        Object[] values = new Object[types.length];
        String[] words = inside.split(",");
        for (int i = 0; i < types.length; i++) {
            values[i] = value(types[i], words[i].trim());
        }
        return answer(ditch, method, values);
    }

    private static String answerToText(AcequiaGates ditch, Method method, String text) {
        String last = "";
        for (char c : text.toCharArray()) {
            last = answer(ditch, method, new Object[] {c});
        }
        return last;
    }

    private static String answer(AcequiaGates ditch, Method method, Object[] values) {
        try {
            return String.valueOf(method.invoke(ditch, values));
        } catch (InvocationTargetException e) {
            return "throws " + e.getCause().getClass().getSimpleName();
        } catch (IllegalAccessException e) {
            return "is no public method";
        }
    }

    private static Object value(Class<?> type, String word) {
        if (type == boolean.class) {
            return Boolean.parseBoolean(word);
        }
        if (type == char.class) {
            return (char) Integer.parseInt(word);
        }
        return Integer.parseInt(word);
    }

    /** Semicolons inside quotation marks belong to a text. */
    private static List<String> rows(String script) {
        List<String> rows = new ArrayList<>();
        StringBuilder row = new StringBuilder();
        boolean isQuoted = false;
        for (char c : script.toCharArray()) {
            if (c == '"') {
                isQuoted = !isQuoted;
            }
            if (c == ';' && !isQuoted) {
                addRow(rows, row);
            } else {
                row.append(c);
            }
        }
        addRow(rows, row);
        return rows;
    }

    private static void addRow(List<String> rows, StringBuilder row) {
        String text = row.toString().trim();
        if (!text.isEmpty()) {
            rows.add(text);
        }
        row.setLength(0);
    }

    private static Map<String, Method> methods() {
        Map<String, Method> methods = new HashMap<>();
        for (Method method : AcequiaGates.class.getDeclaredMethods()) {
            methods.put(method.getName(), method);
        }
        return methods;
    }
}
