import java.io.IOException;
import java.lang.reflect.Constructor;
import java.lang.reflect.Field;
import java.lang.reflect.Member;
import java.lang.reflect.Method;
import java.lang.reflect.Modifier;
import java.nio.file.Files;
import java.nio.file.Path;
import java.util.Arrays;
import java.util.HashSet;
import java.util.Set;
import java.util.TreeSet;
import java.util.regex.Matcher;
import java.util.regex.Pattern;

/** The document's face, and of LANGUAGE.md what can be seen from the class and its text. */
public final class FaceTest {
    private static final Check check = new Check();

    private static final String[] FACE = {
        "int append(int, int, int, int) A S", "int empty(int, int) A", "int length(int, int) A",
        "int at(int, int, int) A", "int judge(int, int, int) A", "int pool(int, int) A",
        "int toJudge(int, int) A", "int hits(int, int, int) A",
        "long precisionNumerator(int, int, int) A", "long precisionDenominator(int, int, int) A",
        "long reciprocalNumerator(int, int) A", "long reciprocalDenominator(int, int) A",
        "long meanNumerator(int, int) A", "long meanDenominator(int, int) A", "int best(int) A",
        "int cross(int, int, int, int) A", "int crossed(int) A", "int click(int) A S",
        "int credit(int) A", "int sum(int, int, int) A", "int test(int, int, int) A",
    };

    public static void main(String[] args) throws IOException {
        constantsAreAsTold();
        methodsAreAsTold();
        nothingElseIsSeen();
        classesInsideAreStatic();
        onlyFinalStaticFields();
        textKeepsToTheLanguage(Files.readString(Path.of("src/main/java/JudgedRuns.java")));
        check.end();
    }

    private static void constantsAreAsTold() {
        check.due("NONE", -1, JudgedRuns.NONE);
        check.due("UNJUDGED", 0, JudgedRuns.UNJUDGED);
        check.due("NOT_RELEVANT", 1, JudgedRuns.NOT_RELEVANT);
        check.due("RELEVANT", 2, JudgedRuns.RELEVANT);
    }

    private static String told(Method method) {
        StringBuilder text = new StringBuilder(method.getReturnType().getName()).append(' ').append(method.getName());
        String types = Arrays.toString(method.getParameterTypes());
        text.append('(').append(types, 1, types.length() - 1).append(')');
        Set<Class<?>> thrown = new HashSet<>(Arrays.asList(method.getExceptionTypes()));
        text.append(thrown.remove(IllegalArgumentException.class) ? " A" : "");
        text.append(thrown.remove(IllegalStateException.class) ? " S" : "");
        return text.append(thrown.isEmpty() ? "" : " more").toString();
    }

    private static void methodsAreAsTold() {
        Set<String> due = new TreeSet<>(Arrays.asList(FACE));
        Set<String> got = new TreeSet<>();
        for (Method method : JudgedRuns.class.getDeclaredMethods()) {
            if (!Modifier.isPrivate(method.getModifiers())) {
                got.add(told(method));
                check.holds(method + " is not an ordinary public method", method.getModifiers() == Modifier.PUBLIC);
            }
        }
        check.holds("the methods are " + got + ", due are " + due, due.equals(got));
        Constructor<?>[] constructors = JudgedRuns.class.getDeclaredConstructors();
        check.due("constructors", 1, constructors.length);
        check.holds("the constructor is public", constructors[0].getModifiers() == Modifier.PUBLIC);
        check.due("parameters of the constructor", 0, constructors[0].getParameterCount());
        check.due("exceptions of the constructor", 0, constructors[0].getExceptionTypes().length);
        check.holds("the class is public and final",
                JudgedRuns.class.getModifiers() == (Modifier.PUBLIC | Modifier.FINAL));
    }

    private static void nothingElseIsSeen() {
        Set<String> seen = new TreeSet<>();
        Set<String> names = new HashSet<>();
        for (Field field : JudgedRuns.class.getDeclaredFields()) {
            if (!Modifier.isPrivate(field.getModifiers())) {
                seen.add(field.getName());
            }
        }
        check.holds("the fields seen are " + seen,
                seen.equals(Set.of("NONE", "UNJUDGED", "NOT_RELEVANT", "RELEVANT")));
        for (String method : FACE) {
            names.add(method.substring(method.indexOf(' ') + 1, method.indexOf('(')));
        }
        for (Class<?> type : allClasses()) {
            for (Method method : type.getDeclaredMethods()) {
                boolean ofTheFace = type == JudgedRuns.class && Modifier.isPublic(method.getModifiers());
                check.holds(method + " bears the name of a public one", ofTheFace || !names.contains(method.getName()));
                check.holds(method + " has too many parameters", method.getParameterCount() <= 7);
                check.holds(method + " is made by the compiler", !method.isSynthetic());
            }
        }
    }

    private static Class<?>[] allClasses() {
        Class<?>[] inside = JudgedRuns.class.getDeclaredClasses();
        Class<?>[] all = Arrays.copyOf(inside, inside.length + 1);
        all[inside.length] = JudgedRuns.class;
        check.holds("too many classes", all.length <= 12);
        return all;
    }

    private static void classesInsideAreStatic() {
        for (Class<?> type : JudgedRuns.class.getDeclaredClasses()) {
            check.holds(type + " is not private, static and final",
                    type.getModifiers() == (Modifier.PRIVATE | Modifier.STATIC | Modifier.FINAL));
            for (Member[] members : new Member[][] {
                type.getDeclaredFields(), type.getDeclaredMethods(), type.getDeclaredConstructors()}) {
                for (Member member : members) {
                    check.holds(member + " is not private", Modifier.isPrivate(member.getModifiers()));
                }
            }
        }
    }

    private static void onlyFinalStaticFields() {
        for (Class<?> type : allClasses()) {
            check.holds(type + " has too many fields", type.getDeclaredFields().length <= 20);
            for (Field field : type.getDeclaredFields()) {
                check.holds(field + " is static and not final",
                        !Modifier.isStatic(field.getModifiers()) || Modifier.isFinal(field.getModifiers()));
            }
        }
    }

    private static void textKeepsToTheLanguage(String text) {
        check.holds("the text has signs beyond ASCII", text.chars().allMatch(sign -> sign < 128));
        String[] ruledOut = {
            "import ", "package ", "->", "::", "try ", "catch", "finally", "synchronized", "assert",
            "System.", "float", "double", "static {", "volatile", "transient", "native", "Exact(",
        };
        for (String word : ruledOut) {
            check.holds("the text has '" + word + "'", !text.contains(word));
        }
        Set<String> library = new TreeSet<>();
        Matcher calls = Pattern.compile("\\b(Math|Integer|Long|String|Arrays|List)\\.\\w+").matcher(text);
        while (calls.find()) {
            library.add(calls.group());
        }
        check.holds("the library used is " + library, Set.of("Math.abs", "Math.max", "Math.min").containsAll(library));
        Matcher thrown = Pattern.compile("throw ([^;]*);").matcher(text);
        while (thrown.find()) {
            check.holds("thrown is " + thrown.group(1), thrown.group(1)
                    .matches("new Illegal(Argument|State)Exception\\(\"[^\"]*\"\\)"));
        }
    }
}
