import java.lang.reflect.Constructor;
import java.lang.reflect.Field;
import java.lang.reflect.Method;
import java.lang.reflect.Modifier;
import java.nio.file.Files;
import java.nio.file.Path;
import java.util.Arrays;
import java.util.TreeSet;
import java.util.regex.Matcher;
import java.util.regex.Pattern;

/** The public face as the document tells it, and those rules of LANGUAGE.md that a look can see. */
public final class FormTest {
    private static final String[] FACE = {
        "about(int,int):int", "arc(int,int,int):int", "at(int):int", "audit(boolean):int",
        "begins(int,int):int", "cards(int,int,int):int", "changes():int", "demand(int,int):int",
        "fire(int):int", "given(int,boolean):long", "just(int,int,boolean):long",
        "least(int,int,int):int", "loop(int,int):int", "loops():int", "machine(int,int,int):int",
        "note():int", "pace(boolean):long", "put(int,int):int", "ready(int):int", "rough():int",
        "round():int", "slowest():int", "station(int):int", "store(int):int",
        "sum(int,boolean):int", "time(int,int):int", "total(int):int"
    };
    private static final String[] CONSTANTS = {"FULL", "NONE", "OUTSIDE", "STATE", "UNKNOWN"};
    private static final String[] BARRED = {
        "\\b(throw|throws|try|catch|finally|synchronized|assert)\\b", "->", "::",
        "\\bimport\\b(?! java\\.util\\.Arrays;)", "^package\\b", "Exact\\b",
        "\\b(boolean equals|int hashCode|String toString)\\b", "\\b(System\\.(?!arraycopy)|Thread|Random|Scanner)",
        "\\bwhile \\(true\\)"
    };
    private static int wrong = 0;

    private static void due(String what, Object got, Object want) {
        if (!got.equals(want)) {
            wrong++;
            System.out.println(what + ": " + got + ", due is " + want);
        }
    }

    public static void main(String[] args) throws Exception {
        checkClass();
        checkMethods();
        checkFields(PullCards.class);
        checkInside();
        checkText(Files.readString(Path.of("src/main/java/PullCards.java")));
        System.out.println(wrong == 0 ? "the form is as due" : wrong + " things are not as due");
        if (wrong != 0) {
            System.exit(1);
        }
    }

    private static void checkClass() {
        int kind = PullCards.class.getModifiers();
        due("public final", Modifier.isPublic(kind) && Modifier.isFinal(kind), true);
        Constructor<?>[] constructors = PullCards.class.getDeclaredConstructors();
        due("constructors", Arrays.toString(constructors), "[public PullCards()]");
    }

    private static void checkMethods() {
        TreeSet<String> open = new TreeSet<>();
        TreeSet<String> names = new TreeSet<>();
        for (Method method : PullCards.class.getDeclaredMethods()) {
            if (!Modifier.isPrivate(method.getModifiers())) {
                due(method + " is public", Modifier.isPublic(method.getModifiers()), true);
                due(method + " is static", Modifier.isStatic(method.getModifiers()), false);
                open.add(signature(method));
                names.add(method.getName());
            }
        }
        due("methods", open, new TreeSet<>(Arrays.asList(FACE)));
        checkHidden(PullCards.class, names);
        for (Class<?> type : PullCards.class.getDeclaredClasses()) {
            checkHidden(type, names);
        }
    }

    private static void checkHidden(Class<?> type, TreeSet<String> openNames) {
        for (Method method : type.getDeclaredMethods()) {
            boolean hidden = Modifier.isPrivate(method.getModifiers());
            boolean likeOpen = openNames.contains(method.getName());
            due(method + " bears an open name", hidden && likeOpen, false);
            due(method + " takes too many", method.getParameterCount() > 7, false);
        }
    }

    private static String signature(Method method) {
        StringBuilder text = new StringBuilder(method.getName()).append('(');
        for (Class<?> type : method.getParameterTypes()) {
            text.append(text.charAt(text.length() - 1) == '(' ? "" : ",").append(type.getName());
        }
        return text.append("):").append(method.getReturnType().getName()).toString();
    }

    private static void checkFields(Class<?> type) {
        TreeSet<String> open = new TreeSet<>();
        int changing = 0;
        for (Field field : type.getDeclaredFields()) {
            int kind = field.getModifiers();
            if (Modifier.isStatic(kind)) {
                due(field + " is final", Modifier.isFinal(kind), true);
                due(field + " is of numbers", field.getType().isPrimitive(), true);
            } else {
                changing++;
            }
            if (type == PullCards.class && !Modifier.isPrivate(kind)) {
                open.add(field.getName());
            }
        }
        due(type + " has too many fields", changing > 20, false);
        if (type == PullCards.class) {
            due("open fields", open, new TreeSet<>(Arrays.asList(CONSTANTS)));
        }
    }

    private static void checkInside() {
        Class<?>[] inside = PullCards.class.getDeclaredClasses();
        due("at most twelve classes", inside.length < 12, true);
        for (Class<?> type : inside) {
            int kind = type.getModifiers();
            due(type + " is static", Modifier.isStatic(kind), true);
            due(type + " is open", Modifier.isPublic(kind) || Modifier.isProtected(kind), false);
            checkFields(type);
        }
    }

    private static void checkText(String text) {
        String code = text.replaceAll("(?s)/\\*.*?\\*/", "").replaceAll("//[^\n]*", "");
        for (String barred : BARRED) {
            Matcher found = Pattern.compile(barred, Pattern.MULTILINE).matcher(code);
            due("barred: " + barred, found.find() ? found.group() : "", "");
        }
    }
}
