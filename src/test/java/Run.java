import java.lang.reflect.InvocationTargetException;
import java.lang.reflect.Method;
import java.util.ArrayList;
import java.util.HashMap;
import java.util.List;
import java.util.Map;

/** A run of calls on a new object, each call written as a text and held against the answer that is due. */
final class Run {
    static final int MOST_CALLS = 512;
    private static final Map<String, Method> METHODS = new HashMap<>();
    private static int answers = 0;
    private static int wrong = 0;

    private final String title;
    private final TriedHarder object = new TriedHarder();
    private int calls = 0;

    Run(String title, String... firstCalls) {
        this.title = title;
        for (String call : firstCalls) {
            answer(call);
        }
    }

    long answer(String call) {
        calls++;
        if (calls > MOST_CALLS) {
            throw new IllegalStateException(title + ": more calls than the document promises answers for");
        }
        return call(object, call);
    }

    void due(String call, long want) {
        hold(title + ": " + call, answer(call), want);
    }

    void dueEach(long want, String... calls) {
        for (String call : calls) {
            due(call, want);
        }
    }

    static void hold(String what, long got, long want) {
        answers++;
        if (got != want) {
            wrong++;
            System.out.println(what + " answered " + got + ", due is " + want);
        }
    }

    static void holdTrue(String what, boolean is) {
        hold(what, is ? 1 : 0, 1);
    }

    /** Two objects go the same way, one of them through the refused calls too: then all that can be asked must be alike. */
    static void refusedChangesNothing(String title, long refusal, String[] way, String... refused) {
        for (String call : refused) {
            Run plain = new Run(title + " without " + call, way);
            Run tried = new Run(title + " behind " + call, way);
            tried.due(call, refusal);
            for (String question : questions()) {
                tried.due(question, plain.answer(question));
            }
        }
    }

    /**
     * The call's # takes the last numbers within the bounds, with the answers that are due to them, and the first ones
     * beyond them, the least and the greatest int too, each of which is refused and changes nothing.
     */
    static void bounds(String[] way, String call, int low, int high, long refusal, long atLow, long atHigh) {
        new Run("at the low bound", way).due(with(call, low), atLow);
        new Run("at the high bound", way).due(with(call, high), atHigh);
        refusedChangesNothing("beyond a bound", refusal, way, beyond(call, low, high));
    }

    static String[] beyond(String call, int low, int high) {
        return new String[] {with(call, low - 1), with(call, high + 1), with(call, Integer.MIN_VALUE), with(call, Integer.MAX_VALUE)};
    }

    private static String with(String call, int v) {
        return call.replace("#", Integer.toString(v));
    }

    static String[] joined(String[] way, String... more) {
        String[] all = new String[way.length + more.length];
        System.arraycopy(way, 0, all, 0, way.length);
        System.arraycopy(more, 0, all, way.length, more.length);
        return all;
    }

    /** What tells one state from another: first calls that only ask, then those that tell by changing. */
    static List<String> questions() {
        List<String> questions = new ArrayList<>();
        askOfUnits(questions);
        askOfStanding(questions);
        for (int what = 0; what < 3; what++) {
            questions.add("plan(300, 10, " + what + ")");
            questions.add("law(20, 3, " + what + ")");
        }
        questions.add("miss(50, 3)");
        questions.add("says(50, 3, 2)");
        questions.add("end(12, 3, 80, 1)");
        for (int life = 1; life <= 1000; life *= 10) {
            questions.add("used(" + life + ")");
            questions.add("fails(" + life + ")");
        }
        for (int stress = 0; stress < 4; stress++) {
            questions.add("speed(" + stress + ", 1)");
        }
        questions.add("rule(0, 1)");
        questions.add("rule(1, 1)");
        questions.add("drop()");
        questions.add("clear()");
        return questions;
    }

    private static void askOfUnits(List<String> questions) {
        for (int u = 0; u < 12; u++) {
            for (int what = 0; what < 4; what++) {
                questions.add("told(" + u + ", " + what + ")");
            }
        }
        for (int set : new int[] {15, 1, 2, 4, 8}) {
            for (int what = 0; what < 8; what++) {
                questions.add("count(" + set + ", " + what + ")");
            }
        }
    }

    private static void askOfStanding(List<String> questions) {
        for (int t : new int[] {0, 11, 21, 500}) {
            questions.add("risk(15, " + t + ")");
        }
        for (int cause = -1; cause < 3; cause++) {
            questions.add("time(15, " + cause + ", 1, 2)");
            questions.add("runIn(15, " + cause + ", 70, 1)");
            for (int what = 0; what < 2; what++) {
                questions.add("left(15, " + cause + ", 20, " + what + ")");
                questions.add("left(15, " + cause + ", 500, " + what + ")");
                questions.add("mean(15, " + cause + ", 100, " + what + ")");
                questions.add("rest(15, " + cause + ", 10, 100, " + what + ")");
            }
        }
    }

    static long call(Object on, String call) {
        int open = call.indexOf('(');
        String name = call.substring(0, open);
        String inside = call.substring(open + 1, call.length() - 1).trim();
        String[] texts = inside.isEmpty() ? new String[0] : inside.split(",");
        Object[] arguments = new Object[texts.length];
        for (int i = 0; i < texts.length; i++) {
            arguments[i] = Integer.parseInt(texts[i].trim());
        }
        return call(on, name, arguments);
    }

    static long call(Object on, String name, Object[] arguments) {
        try {
            return ((Number) method(on.getClass(), name, arguments.length).invoke(on, arguments)).longValue();
        } catch (InvocationTargetException e) {
            throw new IllegalStateException(name + " threw", e.getCause());
        } catch (IllegalAccessException e) {
            throw new IllegalStateException(name + " can't be called", e);
        }
    }

    private static Method method(Class<?> of, String name, int takes) {
        return METHODS.computeIfAbsent(of.getName() + " " + name + " " + takes, key -> {
            for (Method method : of.getDeclaredMethods()) {
                if (method.getName().equals(name) && method.getParameterCount() == takes) {
                    return method;
                }
            }
            throw new IllegalStateException("no call " + name + " of " + takes);
        });
    }

    static void finish() {
        System.out.println(answers + " answers, " + wrong + " not as due");
        if (wrong != 0 || answers == 0) {
            System.exit(1);
        }
    }
}
