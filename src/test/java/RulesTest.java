import java.io.IOException;
import java.lang.reflect.Constructor;
import java.lang.reflect.Field;
import java.lang.reflect.Method;
import java.lang.reflect.Modifier;
import java.nio.file.Files;
import java.nio.file.Path;
import java.util.List;
import java.util.Set;
import java.util.TreeSet;

/** The face of the class, and those rules of LANGUAGE.md that can be seen from outside. */
public final class RulesTest {
    private static final String FILE = "src/main/java/AdaptiveQueryExecutor.java";
    private static final String[] FACE = {"source(int)int", "window(int,int)int", "deliver(int,int,int,int,int)int",
        "drop(int,int)int", "feed(int)int", "operator()int", "remove(int)int", "policy(int)int",
        "discipline(int)int", "step(int)int", "run(int)int", "next()int", "pending(int,int)int",
        "told(int,int)int", "of(int,int)int", "value(int,int,int)int", "output(int,int)int", "where(int)int",
        "answer(int)int", "rank(int,int)long", "would(int,int)int", "best()int", "age()int", "event(int)int",
        "image()int", "undo()int", "count(int)int"};
    private static final String[] CONSTANTS = {"NONE int", "BAD int", "STATE int", "FULL int", "NO long"};
    private static final String[] BANNED = {"throw", "try", "catch", "synchronized", "assert", "import", "package",
        "protected", "native", "volatile", "transient", "instanceof", "hashCode", "toString"};
    private static final Check check = new Check("rules");

    public static void main(String[] args) throws IOException {
        Set<String> names = methods();
        fields();
        classes(names);
        text();
        check.finish();
    }

    private static Set<String> methods() {
        Class<?> face = AdaptiveQueryExecutor.class;
        int kind = Modifier.PUBLIC | Modifier.FINAL;
        check.due("the class is public and final", face.getModifiers() & kind, kind);
        Set<String> found = new TreeSet<>();
        Set<String> names = new TreeSet<>();
        for (Method method : face.getDeclaredMethods()) {
            if (!Modifier.isPrivate(method.getModifiers()) && !method.isSynthetic()) {
                StringBuilder parameters = new StringBuilder();
                for (Class<?> type : method.getParameterTypes()) {
                    parameters.append(parameters.length() > 0 ? "," : "").append(type.getName());
                }
                found.add(method.getName() + "(" + parameters + ")" + method.getReturnType().getName());
                names.add(method.getName());
            }
        }
        check.due("the methods are those of the face " + found, found.equals(Set.of(FACE)) ? 1 : 0, 1);
        for (Method method : face.getDeclaredMethods()) {
            boolean hidden = Modifier.isPrivate(method.getModifiers());
            check.due(method.getName() + " has a name of the face", hidden && names.contains(method.getName()) ? 1 : 0,
                0);
        }
        Constructor<?>[] constructors = face.getDeclaredConstructors();
        check.due("one constructor", constructors.length, 1);
        check.due("it is public and takes nothing", constructors[0].getParameterCount(), 0);
        return names;
    }

    private static void fields() {
        Set<String> found = new TreeSet<>();
        for (Field field : AdaptiveQueryExecutor.class.getDeclaredFields()) {
            if (!Modifier.isPrivate(field.getModifiers())) {
                found.add(field.getName() + " " + field.getType().getName());
            }
        }
        check.due("the constants are those of the face " + found, found.equals(Set.of(CONSTANTS)) ? 1 : 0, 1);
    }

    private static void classes(Set<String> names) {
        Class<?>[] inside = AdaptiveQueryExecutor.class.getDeclaredClasses();
        check.due("at most twelve classes", inside.length < 12 ? 1 : 0, 1);
        for (Class<?> each : inside) {
            check.due(each + " is static", Modifier.isStatic(each.getModifiers()) ? 1 : 0, 1);
            check.due(each + " is not public", Modifier.isPublic(each.getModifiers()) ? 1 : 0, 0);
            int fields = 0;
            for (Field field : each.getDeclaredFields()) {
                boolean fixed = Modifier.isStatic(field.getModifiers());
                check.due(field + " is final if it is static", !fixed || Modifier.isFinal(field.getModifiers()) ? 1 : 0,
                    1);
                fields += fixed ? 0 : 1;
            }
            check.due(each + " has at most twenty fields", fields <= 20 ? 1 : 0, 1);
            for (Method method : each.getDeclaredMethods()) {
                check.due(method + " has a name of the face", names.contains(method.getName()) ? 1 : 0, 0);
                check.due(method + " has at most seven parameters", method.getParameterCount() <= 7 ? 1 : 0, 1);
            }
        }
    }

    private static void text() throws IOException {
        String code = Files.readString(Path.of(FILE)).replaceAll("(?s)/\\*.*?\\*/", "").replaceAll("//.*", "");
        Set<String> words = new TreeSet<>(List.of(code.split("[^A-Za-z]+")));
        for (String word : BANNED) {
            check.due("the word " + word + " stands in the class", words.contains(word) ? 1 : 0, 0);
        }
        check.due("a lambda stands in the class", code.contains("->") ? 1 : 0, 0);
        check.due("a method reference stands in the class", code.contains("::") ? 1 : 0, 0);
        check.due("an Exact function stands in the class", code.contains("Exact(") ? 1 : 0, 0);
    }
}
