import java.lang.reflect.InvocationTargetException;
import java.lang.reflect.Method;
import java.util.ArrayList;
import java.util.List;

/** A run of calls on a new object, each call written as a text and held against the answer that is due. */
final class Run {
    static final int MOST_CALLS = 512;
    private static int answers = 0;
    private static int wrong = 0;

    private final String title;
    private final TriedHarder object = new TriedHarder();
    private int calls = 0;

    Run(String title, String... firstCalls) {
        this.title = title;
        for (String call : firstCalls) {
            answer(call);
        }
    }

    long answer(String call) {
        calls++;
        if (calls > MOST_CALLS) {
            throw new IllegalStateException(title + ": more calls than the document promises answers for");
        }
        return call(object, call);
    }

    void due(String call, long want) {
        hold(title + ": " + call, answer(call), want);
    }

    void dueEach(long want, String... calls) {
        for (String call : calls) {
            due(call, want);
        }
    }

    static void hold(String what, long got, long want) {
        answers++;
        if (got != want) {
            wrong++;
            System.out.println(what + " answered " + got + ", due is " + want);
        }
    }

    static void holdTrue(String what, boolean is) {
        hold(what, is ? 1 : 0, 1);
    }

    /** Two objects go the same way, one of them through the refused calls too: then all that can be asked must be alike. */
    static void refusedChangesNothing(String title, long refusal, String[] way, String... refused) {
        for (String call : refused) {
            Run plain = new Run(title + " without " + call, way);
            Run tried = new Run(title + " behind " + call, way);
            tried.due(call, refusal);
            List<String> questions = questions();
            for (String question : questions) {
                tried.due(question, plain.answer(question));
            }
        }
    }

    private static List<String> questions() {
        List<String> questions = new ArrayList<>();
        for (int u = 0; u < 12; u++) {
            for (int what = 0; what < 4; what++) {
                questions.add("told(" + u + ", " + what + ")");
            }
        }
        for (int what = 0; what < 8; what++) {
            questions.add("count(15, " + what + ")");
        }
        for (int life = 1; life <= 1000; life *= 10) {
            questions.add("used(" + life + ")");
            questions.add("fails(" + life + ")");
        }
        for (int what = 0; what < 3; what++) {
            questions.add("plan(300, 10, " + what + ")");
            questions.add("law(20, 3, " + what + ")");
        }
        for (int stress = 0; stress < 4; stress++) {
            questions.add("speed(" + stress + ", 1)");
        }
        questions.add("rule(0, 1)");
        questions.add("rule(1, 1)");
        questions.add("drop()");
        questions.add("clear()");
        return questions;
    }

    static long call(Object on, String call) {
        int open = call.indexOf('(');
        String name = call.substring(0, open);
        String inside = call.substring(open + 1, call.length() - 1).trim();
        String[] texts = inside.isEmpty() ? new String[0] : inside.split(",");
        Object[] arguments = new Object[texts.length];
        for (int i = 0; i < texts.length; i++) {
            arguments[i] = Integer.parseInt(texts[i].trim());
        }
        return call(on, name, arguments);
    }

    static long call(Object on, String name, Object[] arguments) {
        for (Method method : on.getClass().getDeclaredMethods()) {
            if (method.getName().equals(name) && method.getParameterCount() == arguments.length) {
                try {
                    return ((Number) method.invoke(on, arguments)).longValue();
                } catch (InvocationTargetException e) {
                    throw new IllegalStateException(name + " threw", e.getCause());
                } catch (IllegalAccessException e) {
                    throw new IllegalStateException(name + " can't be called", e);
                }
            }
        }
        throw new IllegalStateException("no call " + name + " of " + arguments.length);
    }

    static void finish() {
        System.out.println(answers + " answers, " + wrong + " not as due");
        if (wrong != 0 || answers == 0) {
            System.exit(1);
        }
    }
}
