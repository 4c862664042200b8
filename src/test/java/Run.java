import java.lang.reflect.InvocationTargetException;
import java.lang.reflect.Method;
import java.util.HashMap;
import java.util.Map;

/**
 * A run of calls on one new object, each written as a text such as "draw(-1)", with the answer that
 * is due. Wrong answers are printed and counted; {@link #end} ends the program with what was found.
 */
final class Run {
    private static final int MOST_CALLS = 512;
    private static final Map<String, Method> METHODS = methods();
    private static int wrong = 0;
    private static int calls = 0;

    private final String name;
    private final TrueSheets sheets = new TrueSheets();
    private int callsHere = 0;

    Run(String name) {
        this.name = name;
    }

    /** Does one call: its answer as a text, or throws. and the name of what it throws. */
    String answer(String call) {
        callsHere++;
        return answer(sheets, call);
    }

    static String answer(TrueSheets sheets, String call) {
        int open = call.indexOf('(');
        Method method = METHODS.get(call.substring(0, open));
        String inside = call.substring(open + 1, call.length() - 1);
        String[] written = inside.isEmpty() ? new String[0] : inside.split(",");
        Class<?>[] types = method.getParameterTypes();
        Object[] arguments = new Object[types.length];
        for (int i = 0; i < types.length; i++) {
            long value = Long.parseLong(written[i].trim());
            if (types[i] == long.class) {
                arguments[i] = value;
            } else {
                arguments[i] = (int) value;
            }
        }
        try {
            return String.valueOf(method.invoke(sheets, arguments));
        } catch (InvocationTargetException e) {
            return "throws." + e.getCause().getClass().getSimpleName();
        } catch (IllegalAccessException e) {
            throw new AssertionError(e);
        }
    }

    /** The calls, written with blanks between them, are done; each has the same answer. */
    Run due(long answer, String... callsWritten) {
        for (String call : callsWritten) {
            compare(call, answer(call), String.valueOf(answer));
        }
        return this;
    }

    Run noSuch(String... callsWritten) {
        return fails("throws.IndexOutOfBoundsException", callsWritten);
    }

    Run badArgument(String... callsWritten) {
        return fails("throws.IllegalArgumentException", callsWritten);
    }

    Run notNow(String... callsWritten) {
        return fails("throws.IllegalStateException", callsWritten);
    }

    /** Does calls whose answers are looked at elsewhere. */
    Run after(String... callsWritten) {
        for (String call : callsWritten) {
            String answer = answer(call);
            if (answer.startsWith("throws.")) {
                compare(call, answer, "a result");
            }
        }
        return this;
    }

    Run times(int n, String call) {
        for (int i = 0; i < n; i++) {
            after(call);
        }
        return this;
    }

    /** Puts a text in the place of the one in the buffer. */
    Run text(String text) {
        after("clearText()");
        for (int i = 0; i < text.length(); i++) {
            compare("append(" + (int) text.charAt(i) + ")", answer("append(" + (int) text.charAt(i) + ")"),
                String.valueOf(i + 1));
        }
        return this;
    }

    /** The # in the call stands for a number: there are the first and the last one, and none outside. */
    Run thereAre(int count, String call) {
        return ends("throws.IndexOutOfBoundsException", 0, count - 1, call);
    }

    /** The # in the call stands for an argument: the ends of its range are allowed, and nothing outside. */
    Run range(int least, int most, String call) {
        return ends("throws.IllegalArgumentException", least, most, call);
    }

    private Run ends(String how, int least, int most, String call) {
        for (long outside : new long[] {Integer.MIN_VALUE, least - 1L, most + 1L, most + 256L, Integer.MAX_VALUE}) {
            boolean isOutside = outside < least || outside > most;
            if (isOutside && outside == (int) outside) {
                fails(how, call.replace("#", "" + outside));
            }
        }
        return after(call.replace("#", "" + least), call.replace("#", "" + most));
    }

    private Run fails(String how, String... callsWritten) {
        for (String call : callsWritten) {
            compare(call, answer(call), how);
        }
        return this;
    }

    private void compare(String call, String got, String want) {
        calls++;
        if (callsHere > MOST_CALLS) {
            wrong++;
            System.out.println(name + ": more than " + MOST_CALLS + " calls on one object");
        }
        if (!got.equals(want)) {
            wrong++;
            System.out.println(name + ": " + call + " answered " + got + ", due is " + want);
        }
    }

    /** For tests that compare something else than a call's answer. */
    static void check(String what, Object got, Object want) {
        calls++;
        if (!got.equals(want)) {
            wrong++;
            System.out.println(what + ": is " + got + ", due is " + want);
        }
    }

    static int wrongSoFar() {
        return wrong;
    }

    static void end(String test) {
        System.out.println(test + ": " + calls + " answers looked at, " + wrong + " wrong");
        if (wrong != 0 || calls == 0) {
            System.exit(1);
        }
    }

    private static Map<String, Method> methods() {
        Map<String, Method> byName = new HashMap<>();
        for (Method method : TrueSheets.class.getDeclaredMethods()) {
            if (java.lang.reflect.Modifier.isPublic(method.getModifiers())) {
                byName.put(method.getName(), method);
            }
        }
        return byName;
    }
}
