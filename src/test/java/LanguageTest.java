import java.io.IOException;
import java.lang.reflect.Constructor;
import java.lang.reflect.Field;
import java.lang.reflect.Method;
import java.lang.reflect.Modifier;
import java.nio.file.Files;
import java.nio.file.Path;
import java.util.Arrays;
import java.util.List;
import java.util.Set;
import java.util.TreeSet;
import java.util.regex.Matcher;
import java.util.regex.Pattern;
import java.util.stream.Collectors;

/** The document's face, and those rules of ../shared/LANGUAGE.md that can be seen from the class and its source. */
public final class LanguageTest {
    private static final Due due = new Due("LanguageTest");
    /** A line that breaks a rule of ../shared/LANGUAGE.md, each with the rule's number ahead. */
    private static final String[] BREAKERS = {
        "0 int a() { return b; }",
        "2 int[] a; class Inner { }",
        "2 void a() { class Local { } }",
        "2 interface F { int f(); } static F f = () -> 1;",
        "2 interface F { int f(); } static int g() { return 1; } static final F f = X::g;",
        "2 Object a = new Object() { };",
        "3 Object a;",
        "3 int[][][] a;",
        "3 X[][] a;",
        "3 java.util.HashMap<Integer, Integer> a;",
        "4 int a() { return Math.addExact(1, 2); }",
        "4 long a() { return System.nanoTime(); }",
        "4 void a(int[] b) { java.util.Arrays.sort(b); }",
        "4 int a(String s) { return s.hashCode(); }",
        "4 String a = \"\u00e9\";",
        "5 static int a = 1;",
        "5 static { int a = 1; }",
        "5 static final int[] A = new X().b; int[] b;",
        "6 void a() { throw new IllegalStateException(); }",
        "6 void a() { try { a(); } finally { } }",
        "6 void a() { synchronized (this) { } }",
        "6 void a() { assert true; }",
        "6 boolean a(String b, String c) { return b == c; }",
        "6 X a(X b) { return (X) b; }",
        "6 public String toString() { return null; }",
        "7 int a(int b) { return 1 / b; }",
        "7 int a(int b) { return 1 % b; }",
        "7 int a(int b) { int c = 1; c /= b; return c; }",
        "9 void a() { while (true) { } }",
        "9 void a() { do { } while (true); }",
        "9 void a() { for (;;) { } }",
        "9 void a() { for (int i = 0; true; i++) { } }",
        "10 String a(String b) { return b + 1; }",
        "11 int a() { return a(); }",
        "11 int a() { return b(); } int b() { return a(); }",
        "11 void a(int b, int c, int d, int e, int f, int g, int h, int i) { }",
        "12 int[] a() { return new int[1]; }",
        "12 X a() { return new X(); }"};

    public static void main(String[] args) throws IOException {
        face();
        members();
        headings();
        source();
        looking();
        due.end();
    }

    private static void yes(String what, boolean holds) {
        due.is(what, holds ? 1 : 0, 1);
    }

    private static void face() throws IOException {
        String doc = Files.readString(Path.of("../shared/DOC.md"));
        Set<String> wanted = new TreeSet<>();
        Matcher told = Pattern.compile("    public (int|long) (\\w+)\\(([^)]*)\\);").matcher(doc);
        while (told.find()) {
            int parameters = told.group(3).isBlank() ? 0 : told.group(3).split(",").length;
            wanted.add(told.group(1) + " " + told.group(2) + " int*" + parameters);
        }
        Set<String> there = new TreeSet<>();
        for (Method method : DoorCalls.class.getDeclaredMethods()) {
            if (!Modifier.isPrivate(method.getModifiers())) {
                yes(method + " is public", Modifier.isPublic(method.getModifiers()));
                yes(method + " takes ints", Arrays.stream(method.getParameterTypes()).allMatch(type -> type == int.class));
                there.add(method.getReturnType() + " " + method.getName() + " int*" + method.getParameterCount());
            }
        }
        due.is("methods of the face", wanted.size(), 48);
        yes("the face is " + wanted + ", there is " + there, wanted.equals(there));
        Constructor<?>[] constructors = DoorCalls.class.getDeclaredConstructors();
        due.is("constructors", constructors.length, 1);
        due.is("parameters of the constructor", constructors[0].getParameterCount(), 0);
        yes("a public constructor", Modifier.isPublic(constructors[0].getModifiers()));
        yes("a public final class", DoorCalls.class.getModifiers() == (Modifier.PUBLIC | Modifier.FINAL));
        due.is("BAD", DoorCalls.BAD, -1);
        due.is("FULL", DoorCalls.FULL, -2);
        due.is("FINDING", DoorCalls.FINDING, -3);
        due.is("STATE", DoorCalls.STATE, -4);
        due.is("NONE", DoorCalls.NONE, -9);
    }

    /** The calls stand in the source under the headings, and in the order, of the document's interface. */
    private static void headings() throws IOException {
        String doc = Files.readString(Path.of("../shared/DOC.md"));
        String source = Files.readString(Path.of("src/main/java/DoorCalls.java")).replace("public long ", "public int ");
        Matcher told = Pattern.compile("Ahead of the calls (.*) the interface says: (.*)\\.\n").matcher(doc);
        int place = 0;
        int calls = 0;
        while (told.find()) {
            place = behind(source, "// " + told.group(2) + "\n", place);
            for (String call : told.group(1).replace("`", "").split(", ")) {
                place = behind(source, "    public int " + call + "(", place);
                calls++;
            }
        }
        due.is("calls under headings", calls, 48);
    }

    private static int behind(String source, String words, int place) {
        int found = source.indexOf(words, Math.max(place, 0));
        yes("in its order: " + words.strip(), found >= 0);
        return found + words.length();
    }

    private static void members() {
        Set<String> constants = Set.of("BAD", "FULL", "FINDING", "STATE", "NONE");
        for (Field field : DoorCalls.class.getDeclaredFields()) {
            yes(field + " is private or of the face",
                Modifier.isPrivate(field.getModifiers()) != constants.contains(field.getName()));
        }
        for (Class<?> inside : DoorCalls.class.getDeclaredClasses()) {
            int modifiers = inside.getModifiers();
            yes(inside + " is not open", !Modifier.isPublic(modifiers) && !Modifier.isProtected(modifiers));
            namesOfTheirOwn(inside);
        }
        namesOfTheirOwn(DoorCalls.class);
    }

    private static void namesOfTheirOwn(Class<?> one) {
        Set<String> publicNames = Arrays.stream(DoorCalls.class.getDeclaredMethods())
            .filter(method -> Modifier.isPublic(method.getModifiers())).map(Method::getName).collect(Collectors.toSet());
        for (Method method : one.getDeclaredMethods()) {
            yes(method + " has a name of its own",
                Modifier.isPublic(method.getModifiers()) || !publicNames.contains(method.getName()));
        }
    }

    private static void source() throws IOException {
        List<String> broken = SourceRules.broken("DoorCalls", Files.readString(Path.of("src/main/java/DoorCalls.java")));
        for (String rule : broken) {
            yes("rule " + rule, false);
        }
        due.is("rules that are broken", broken.size(), 0);
    }

    /** The looking itself: a source is seen to break the rule that it breaks, and one that keeps to them is not. */
    private static void looking() throws IOException {
        for (String breaker : BREAKERS) {
            String rule = breaker.substring(0, breaker.indexOf(' '));
            List<String> broken = SourceRules.broken("X", inX(breaker.substring(rule.length())));
            yes("seen: " + breaker + ", as " + broken, broken.stream().anyMatch(one -> one.startsWith(rule + ":")));
        }
        yes("many lines", !SourceRules.broken("X", inX("void a() {" + "\n".repeat(60) + "}")).isEmpty());
        yes("many fields", !SourceRules.broken("X", inX(many("int f#;", 21))).isEmpty());
        yes("many classes", !SourceRules.broken("X", inX(many("static class C# { }", 12))).isEmpty());
        yes("deep calls", !SourceRules.broken("X", inX("void a0() { }" + many("void a+() { a#(); }", 8))).isEmpty());
        due.is("calls just as deep", SourceRules.broken("X", inX("void a0() { }" + many("void a+() { a#(); }", 7))).size(), 0);
        String plain = "int[] a = new int[2]; int b(int c) { for (int i = 0; i < c; i++) { } return c != 0 ? 1 / c : Math.abs(c); }";
        due.is("a plain source", SourceRules.broken("X", inX(plain)).size(), 0);
    }

    private static String inX(String lines) {
        return "final class X { " + lines + " }";
    }

    private static String many(String line, int n) {
        StringBuilder all = new StringBuilder();
        for (int k = 0; k < n; k++) {
            all.append(line.replace("#", Integer.toString(k)).replace("a+", "a" + (k + 1)));
        }
        return all.toString();
    }
}
