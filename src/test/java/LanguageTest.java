import java.io.IOException;
import java.lang.reflect.Constructor;
import java.lang.reflect.Field;
import java.lang.reflect.Method;
import java.lang.reflect.Modifier;
import java.nio.file.Files;
import java.nio.file.Path;
import java.util.ArrayList;
import java.util.Arrays;
import java.util.List;
import java.util.Set;
import java.util.TreeSet;
import java.util.regex.Matcher;
import java.util.regex.Pattern;
import java.util.stream.Collectors;

/** The document's face, and those rules of ../shared/LANGUAGE.md that can be seen from the class and its source. */
public final class LanguageTest {
    private static final Due due = new Due("LanguageTest");
    private static final int MOST_CLASSES = 12, MOST_FIELDS = 20, MOST_PARAMETERS = 7, MOST_LINES = 60;
    private static final String[] FORBIDDEN = {
        "\\bthrow\\b", "\\btry\\b", "\\bcatch\\b", "\\bsynchronized\\b", "\\bassert\\b", "->", "::", "\\bimport\\b",
        "\\bpackage\\b", "\\bextends\\b", "\\bObject\\b", "\\bMath\\.\\w+Exact\\b", "\\bthis\\s*\\)", "\"\\s*\\+", "\\+\\s*\"",
        "System\\.(?!arraycopy\\b)", "while\\s*\\(true\\)", "for\\s*\\(;;\\)", "\\bvar\\b", "\\bprotected\\b"};

    public static void main(String[] args) throws IOException {
        face();
        members();
        source();
        due.end();
    }

    private static void yes(String what, boolean holds) {
        due.is(what, holds ? 1 : 0, 1);
    }

    private static void face() throws IOException {
        String doc = Files.readString(Path.of("../shared/DOC.md"));
        Set<String> wanted = new TreeSet<>();
        Matcher told = Pattern.compile("    public (int|long) (\\w+)\\(([^)]*)\\);").matcher(doc);
        while (told.find()) {
            int parameters = told.group(3).isBlank() ? 0 : told.group(3).split(",").length;
            wanted.add(told.group(1) + " " + told.group(2) + " int*" + parameters);
        }
        Set<String> there = new TreeSet<>();
        for (Method method : DoorCalls.class.getDeclaredMethods()) {
            if (!Modifier.isPrivate(method.getModifiers())) {
                yes(method + " is public", Modifier.isPublic(method.getModifiers()));
                yes(method + " takes ints", Arrays.stream(method.getParameterTypes()).allMatch(type -> type == int.class));
                there.add(method.getReturnType() + " " + method.getName() + " int*" + method.getParameterCount());
            }
        }
        due.is("methods of the face", wanted.size(), 48);
        yes("the face is " + wanted + ", there is " + there, wanted.equals(there));
        Constructor<?>[] constructors = DoorCalls.class.getDeclaredConstructors();
        due.is("constructors", constructors.length, 1);
        due.is("parameters of the constructor", constructors[0].getParameterCount(), 0);
        yes("a public constructor", Modifier.isPublic(constructors[0].getModifiers()));
        yes("a public final class", DoorCalls.class.getModifiers() == (Modifier.PUBLIC | Modifier.FINAL));
        due.is("BAD", DoorCalls.BAD, -1);
        due.is("FULL", DoorCalls.FULL, -2);
        due.is("FINDING", DoorCalls.FINDING, -3);
        due.is("STATE", DoorCalls.STATE, -4);
        due.is("NONE", DoorCalls.NONE, -9);
    }

    private static void members() {
        Set<String> constants = Set.of("BAD", "FULL", "FINDING", "STATE", "NONE");
        for (Field field : DoorCalls.class.getDeclaredFields()) {
            yes(field + " is private or of the face",
                Modifier.isPrivate(field.getModifiers()) != constants.contains(field.getName()));
        }
        List<Class<?>> classes = new ArrayList<>(List.of(DoorCalls.class.getDeclaredClasses()));
        for (Class<?> inside : classes) {
            int modifiers = inside.getModifiers();
            yes(inside + " is static", Modifier.isStatic(modifiers));
            yes(inside + " is not open", !Modifier.isPublic(modifiers) && !Modifier.isProtected(modifiers));
            due.is("classes inside " + inside, inside.getDeclaredClasses().length, 0);
        }
        classes.add(DoorCalls.class);
        yes("at most " + MOST_CLASSES + " classes", classes.size() <= MOST_CLASSES);
        Set<String> publicNames = Arrays.stream(DoorCalls.class.getDeclaredMethods())
            .filter(method -> Modifier.isPublic(method.getModifiers())).map(Method::getName).collect(Collectors.toSet());
        for (Class<?> each : classes) {
            List<Field> own = Arrays.stream(each.getDeclaredFields())
                .filter(field -> !Modifier.isStatic(field.getModifiers())).toList();
            yes("fields of " + each, own.size() <= MOST_FIELDS);
            for (Field field : each.getDeclaredFields()) {
                yes(field + " is final if static",
                    !Modifier.isStatic(field.getModifiers()) || Modifier.isFinal(field.getModifiers()));
            }
            for (Method method : each.getDeclaredMethods()) {
                yes("parameters of " + method, method.getParameterCount() <= MOST_PARAMETERS);
                yes(method + " has a name of its own",
                    Modifier.isPublic(method.getModifiers()) || !publicNames.contains(method.getName()));
            }
        }
    }

    private static void source() throws IOException {
        int methods = 0;
        String source = Files.readString(Path.of("src/main/java/DoorCalls.java"));
        yes("signs of the source are 1 to 127", source.chars().allMatch(sign -> sign > 0 && sign < 128));
        String code = source.replaceAll("(?s)/\\*.*?\\*/", "").replaceAll("//[^\n]*", "");
        for (String forbidden : FORBIDDEN) {
            Matcher found = Pattern.compile(forbidden).matcher(code);
            yes("no " + forbidden + " in the source", !found.find());
        }
        String[] lines = source.split("\n");
        for (int k = 0; k < lines.length; k++) {
            Matcher head = Pattern.compile("( {4}| {8})\\w[^=]*\\(.*\\) \\{").matcher(lines[k]);
            if (head.matches()) {
                int end = k;
                while (!lines[end].equals(head.group(1) + "}")) {
                    end++;
                }
                methods++;
                yes("short: " + lines[k], end - k < MOST_LINES);
            }
        }
        yes("methods were seen", methods > 100);
    }
}
