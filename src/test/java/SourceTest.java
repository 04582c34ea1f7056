import java.io.IOException;
import java.lang.reflect.Constructor;
import java.lang.reflect.Field;
import java.lang.reflect.Method;
import java.lang.reflect.Modifier;
import java.nio.file.Files;
import java.nio.file.Path;
import java.util.Set;
import java.util.TreeSet;
import java.util.regex.Matcher;
import java.util.regex.Pattern;

/** The face of the class, and rules of LANGUAGE.md that a look at its text or its members can tell. */
public final class SourceTest {
    private static final Check check = new Check("SourceTest");
    private static final Path SOURCE = Path.of("src", "main", "java", "EscapeRooms.java");

    public static void main(String[] args) throws IOException {
        face();
        classesInside();
        words();
        check.end();
    }

    private static Set<String> set(String names) {
        return new TreeSet<>(Set.of(names.split(" ")));
    }

    private static void face() {
        check.due("public final", EscapeRooms.class.getModifiers(), Modifier.PUBLIC | Modifier.FINAL);
        Set<String> methods = new TreeSet<>();
        Set<String> hidden = new TreeSet<>();
        for (Method method : EscapeRooms.class.getDeclaredMethods()) {
            if (Modifier.isPrivate(method.getModifiers())) {
                hidden.add(method.getName());
            } else {
                methods.add(method.getName() + method.getParameterCount());
                for (Class<?> type : method.getParameterTypes()) check.isTrue(method + " takes ints", type == int.class);
                check.isTrue(method + " is public", method.getModifiers() == Modifier.PUBLIC);
                check.isTrue(method + " answers an int", method.getReturnType() == int.class);
            }
        }
        Set<String> due = set("addRoom0 setExit1 addDoor3 addLock5 addKey2 addGroup2 setHints2 walk2 unlock2 take2"
                + " drop2 idle2 part2 join2 leave1 hint1 plan2 planned2 way2 reach1 door2 key2 group2 color2 count1");
        check.isTrue("the methods " + methods, methods.equals(due));
        for (String face : due) {
            String name = face.substring(0, face.length() - 1);
            check.isTrue("no private method is named " + name, !hidden.contains(name));
        }
        Set<String> constants = new TreeSet<>();
        for (Field field : EscapeRooms.class.getDeclaredFields()) {
            int modifiers = field.getModifiers();
            if (!Modifier.isPrivate(modifiers)) constants.add(field.getName());
            if (Modifier.isStatic(modifiers)) check.isTrue(field + " is final", Modifier.isFinal(modifiers));
        }
        check.isTrue("the constants " + constants,
                constants.equals(set("UNKNOWN BAD_VALUE FULL NOT_POSSIBLE TOO_LATE NONE")));
        Constructor<?>[] constructors = EscapeRooms.class.getDeclaredConstructors();
        check.due("constructors", constructors.length, 1);
        check.due("its parameters", constructors[0].getParameterCount(), 0);
        check.due("it is public", constructors[0].getModifiers(), Modifier.PUBLIC);
    }

    private static void classesInside() {
        Class<?>[] inside = EscapeRooms.class.getDeclaredClasses();
        check.isTrue("some twelve classes at the most", inside.length < 12);
        for (Class<?> one : inside) {
            check.isTrue(one + " is static", Modifier.isStatic(one.getModifiers()));
            check.isTrue(one + " is not public", !Modifier.isPublic(one.getModifiers()));
            check.isTrue(one + " has some twenty fields at the most", one.getDeclaredFields().length <= 20);
            for (Method method : one.getDeclaredMethods()) {
                check.isTrue(method + " has seven parameters at the most", method.getParameterCount() <= 7);
            }
        }
    }

    private static void words() throws IOException {
        String text = Files.readString(SOURCE);
        for (int i = 0; i < text.length(); i++) {
            if (text.charAt(i) > 126) check.isTrue("plain signs only: " + i, false);
        }
        String code = text.replaceAll("(?s)/\\*.*?\\*/", " ").replaceAll("//[^\n]*", " ");
        String[] ruledOut = {"\\bthrow\\b", "\\bthrows\\b", "\\btry\\b", "\\bcatch\\b", "\\bsynchronized\\b",
            "\\bassert\\b", "->", "::", "\\bpackage\\b", "\\bprotected\\b", "\\bfloat\\b", "\\bdouble\\b",
            "\\bequals\\b", "\\bhashCode\\b", "\\btoString\\b", "\\bSystem\\b", "\\bThread\\b", "\\bRandom\\b",
            "Exact\\b", "\\bvar\\b", "import (?!java\\.util\\.ArrayList;)"};
        for (String word : ruledOut) {
            Matcher matcher = Pattern.compile(word).matcher(code);
            check.isTrue("no " + word + " in the source", !matcher.find());
        }
        methodsAreShort(text);
    }

    /** A method of this source begins and ends with the same indent, which is where its length shows. */
    private static void methodsAreShort(String text) {
        Matcher method = Pattern.compile("(?m)^( {4}| {8})(?! )[\\w<>. ]+\\([^;{]*\\) \\{\n(?s:.*?)^\\1\\}").matcher(text);
        int methods = 0;
        while (method.find()) {
            methods++;
            long lines = method.group().lines().count();
            check.isTrue(method.group().lines().findFirst().orElse("") + " is short", lines <= 60);
        }
        check.isTrue("methods were found", methods > 70);
    }
}
