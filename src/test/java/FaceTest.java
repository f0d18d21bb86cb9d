import java.io.IOException;
import java.lang.reflect.Constructor;
import java.lang.reflect.Field;
import java.lang.reflect.Method;
import java.lang.reflect.Modifier;
import java.nio.file.Files;
import java.nio.file.Path;
import java.util.ArrayList;
import java.util.Arrays;
import java.util.List;
import java.util.Set;
import java.util.TreeSet;
import java.util.regex.Pattern;

/** The public face, and what of LANGUAGE.md's rules can be seen from the class and from its text. */
public final class FaceTest {
    private static final String SOURCE = "src/main/java/TriedHarder.java";
    private static final String[] FACE = {
        "int unit 3", "int set 4", "int drop 0", "int told 2", "int count 2", "int risk 2", "long left 4", "int time 4", "long mean 4", "long rest 5",
        "int runIn 4", "int speed 2", "int says 3", "int miss 2", "int law 3", "int step 2", "int clear 0", "int used 1", "int fails 1", "int end 4",
        "int rule 2", "int plan 3"};

    public static void main(String[] args) throws IOException {
        Run.hold("NONE", TriedHarder.NONE, -1);
        Run.hold("UNKNOWN", TriedHarder.UNKNOWN, -1001);
        Run.hold("OUTSIDE", TriedHarder.OUTSIDE, -1002);
        Run.hold("NOT", TriedHarder.NOT, -1003);
        Run.hold("FULL", TriedHarder.FULL, -1004);
        face();
        nothingElseIsSeen();
        words();
        Run.finish();
    }

    private static void face() {
        Set<String> seen = new TreeSet<>();
        for (Method method : TriedHarder.class.getDeclaredMethods()) {
            if (Modifier.isPublic(method.getModifiers())) {
                seen.add(method.getReturnType() + " " + method.getName() + " " + method.getParameterCount());
                Run.holdTrue(method.getName() + " is no static method", !Modifier.isStatic(method.getModifiers()));
                Run.holdTrue(method.getName() + " takes int alone", Arrays.stream(method.getParameterTypes()).allMatch(t -> t == int.class));
            }
        }
        Set<String> due = new TreeSet<>(Arrays.asList(FACE));
        Run.holdTrue("the public methods are " + seen, seen.equals(due));
        Set<String> constants = new TreeSet<>();
        for (Field field : TriedHarder.class.getDeclaredFields()) {
            if (Modifier.isPublic(field.getModifiers())) {
                constants.add(field.getType() + " " + field.getName());
                Run.holdTrue(field.getName() + " is a constant", Modifier.isStatic(field.getModifiers()) && Modifier.isFinal(field.getModifiers()));
            }
        }
        Run.holdTrue("the public constants are " + constants,
                constants.equals(Set.of("int NONE", "int UNKNOWN", "int OUTSIDE", "int NOT", "int FULL")));
        Constructor<?>[] constructors = TriedHarder.class.getDeclaredConstructors();
        Run.hold("constructors", constructors.length, 1);
        Run.holdTrue("public constructor without numbers", Modifier.isPublic(constructors[0].getModifiers()) && constructors[0].getParameterCount() == 0);
        Run.holdTrue("public final class", Modifier.isPublic(TriedHarder.class.getModifiers()) && Modifier.isFinal(TriedHarder.class.getModifiers()));
        Run.holdTrue("no package", TriedHarder.class.getPackageName().isEmpty());
    }

    private static void nothingElseIsSeen() {
        List<String> publicNames = new ArrayList<>();
        for (String method : FACE) {
            publicNames.add(method.split(" ")[1]);
        }
        for (Method method : TriedHarder.class.getDeclaredMethods()) {
            int kind = method.getModifiers();
            Run.holdTrue(method.getName() + " is public or private", Modifier.isPublic(kind) || Modifier.isPrivate(kind));
            Run.holdTrue(method.getName() + ": no private method bears the name of a public one",
                    Modifier.isPublic(kind) || !publicNames.contains(method.getName()));
            Run.holdTrue(method.getName() + " takes at most seven", method.getParameterCount() <= 7);
        }
        int own = 0;
        for (Field field : TriedHarder.class.getDeclaredFields()) {
            int kind = field.getModifiers();
            Run.holdTrue(field.getName() + " is public or private", Modifier.isPublic(kind) || Modifier.isPrivate(kind));
            Run.holdTrue(field.getName() + ": a static field is final", !Modifier.isStatic(kind) || Modifier.isFinal(kind));
            own += Modifier.isStatic(kind) ? 0 : 1;
        }
        Run.holdTrue("at most twenty fields", own <= 20);
        Class<?>[] inside = TriedHarder.class.getDeclaredClasses();
        Run.holdTrue("at most twelve classes", inside.length < 12);
        for (Class<?> one : inside) {
            Run.holdTrue(one.getName() + " is static", Modifier.isStatic(one.getModifiers()));
            Run.holdTrue(one.getName() + " is not public", !Modifier.isPublic(one.getModifiers()) && !Modifier.isProtected(one.getModifiers()));
            Run.holdTrue(one.getName() + " has at most twenty fields", one.getDeclaredFields().length <= 20);
            for (Field field : one.getDeclaredFields()) {
                int kind = field.getModifiers();
                Run.holdTrue(field.getName() + ": a static field is final", !Modifier.isStatic(kind) || Modifier.isFinal(kind));
            }
        }
    }

    private static void words() throws IOException {
        String text = Files.readString(Path.of(SOURCE)).replaceAll("(?s)/\\*.*?\\*/", "").replaceAll("//[^\n]*", "");
        for (String word : new String[] {"throw", "throws", "try", "catch", "synchronized", "assert", "import", "package", "double", "float", "System"}) {
            Run.holdTrue("the word " + word + " is not there", !Pattern.compile("\\b" + word + "\\b").matcher(text).find());
        }
        Run.holdTrue("no lambda and no method reference", !text.contains("->") && !text.contains("::"));
        Run.holdTrue("no name ends in Exact", !Pattern.compile("\\w+Exact\\b").matcher(text).find());
    }
}
