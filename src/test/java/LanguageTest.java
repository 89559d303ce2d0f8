import java.lang.reflect.Constructor;
import java.lang.reflect.Field;
import java.lang.reflect.Method;
import java.lang.reflect.Modifier;
import java.nio.charset.StandardCharsets;
import java.nio.file.Files;
import java.nio.file.Path;
import java.util.ArrayList;
import java.util.Arrays;
import java.util.List;
import java.util.Set;
import java.util.TreeSet;
import java.util.regex.Matcher;
import java.util.regex.Pattern;

/** The face of the class, and what of ../shared/LANGUAGE.md can be seen from outside. */
public final class LanguageTest {
    private static final String FACE = "row(int,int,int) set(int,int,int) copy(int,int,int,int,int) drop(int) "
        + "feed(long,int) road() fault() night() prove(int) undo() stone(int,int) carry(int,int,int) "
        + "time(int,int,int,int) times(int,int,int) forget() ends(int,int,int) widest() rest() moved(int) who(int,int) "
        + "dare(int,int) best(int) image(int) restore(int) kind(int) as(int,int) ask(int,int) trace(int) count(int) "
        + "status()";
    private static final Due due = new Due("LanguageTest");

    private LanguageTest() {
    }

    public static void main(String[] args) throws Exception {
        face();
        List<Class<?>> classes = new ArrayList<>(Arrays.asList(NightStones.class.getDeclaredClasses()));
        due.holds("at most twelve classes", classes.size() < 12);
        for (Class<?> inside : classes) {
            due.holds(inside + " is static", Modifier.isStatic(inside.getModifiers()));
            due.holds(inside + " is not public", !Modifier.isPublic(inside.getModifiers()));
        }
        classes.add(NightStones.class);
        for (Class<?> one : classes) {
            members(one);
        }
        String root = System.getProperty("project.root", ".");
        Path file = Path.of(root, "src", "main", "java", "NightStones.java");
        source(Files.readString(file, StandardCharsets.UTF_8));
        due.close();
    }

    private static void face() {
        Set<String> told = new TreeSet<>(Arrays.asList(FACE.split(" ")));
        Set<String> found = new TreeSet<>();
        for (Method method : NightStones.class.getDeclaredMethods()) {
            if (!Modifier.isPrivate(method.getModifiers())) {
                StringBuilder text = new StringBuilder();
                for (Class<?> parameter : method.getParameterTypes()) {
                    text.append(text.length() == 0 ? "" : ",").append(parameter.getName());
                }
                found.add(method.getName() + "(" + text + ")");
                due.holds(method + " is public", Modifier.isPublic(method.getModifiers()));
                due.holds(method + " answers an int", method.getReturnType() == int.class);
            }
        }
        due.holds("the face is " + found, found.equals(told));
        due.holds("public and final", Modifier.isPublic(NightStones.class.getModifiers())
            && Modifier.isFinal(NightStones.class.getModifiers()));
        Constructor<?>[] constructors = NightStones.class.getDeclaredConstructors();
        due.holds("one constructor, without parameters",
            constructors.length == 1 && constructors[0].getParameterCount() == 0);
        Set<String> constants = new TreeSet<>();
        for (Field field : NightStones.class.getDeclaredFields()) {
            if (!Modifier.isPrivate(field.getModifiers())) {
                constants.add(field.getName());
            }
        }
        due.holds("the constants are " + constants, constants.equals(Set.of("NONE", "BAD", "STATE", "FULL")));
    }

    private static void members(Class<?> one) {
        int fields = 0;
        for (Field field : one.getDeclaredFields()) {
            if (Modifier.isStatic(field.getModifiers())) {
                due.holds(field + " is final", Modifier.isFinal(field.getModifiers()));
                due.holds(field + " is plain", field.getType() == int.class || field.getType() == int[].class);
            } else {
                fields++;
            }
        }
        due.holds(one + " has at most twenty fields", fields <= 20);
        for (Method method : one.getDeclaredMethods()) {
            due.holds(method + " has at most seven parameters", method.getParameterCount() <= 7);
            boolean isPublicName = (" " + FACE).contains(" " + method.getName() + "(");
            due.holds(method + " bears no public name",
                !isPublicName || one == NightStones.class && Modifier.isPublic(method.getModifiers()));
        }
    }

    private static void source(String text) {
        String code = text.replaceAll("(?s)/\\*.*?\\*/", "").replaceAll("//[^\n]*", "");
        String[] none = {"\\bthrow\\b", "\\btry\\b", "\\bcatch\\b", "\\bsynchronized\\b", "\\bassert\\b", "->", "::",
            "\\binstanceof\\b", "\\bdouble\\b", "\\bfloat\\b", "Exact\\b", "\"\\s*\\+", "\\+\\s*\"", "\\bpackage\\b",
            "static\\s*\\{", "\\bObject\\b", "\\bnull\\b"};
        for (String pattern : none) {
            due.holds("no " + pattern, !Pattern.compile(pattern).matcher(code).find());
        }
        due.holds("letters of code and comment are 1 to 127", text.chars().allMatch(c -> c > 0 && c < 128));
        Matcher imports = Pattern.compile("import ([^;]+);").matcher(code);
        while (imports.find()) {
            due.is("import " + imports.group(1), imports.group(1).equals("java.util.Arrays") ? 1 : 0, 1);
        }
        methodsAreShort(code.split("\n"));
    }

    private static void methodsAreShort(String[] lines) {
        int begun = -1;
        String closing = "";
        for (int i = 0; i < lines.length; i++) {
            Matcher head = Pattern.compile("^( +)(public|private) .*\\) \\{$").matcher(lines[i]);
            if (head.matches()) {
                begun = i;
                closing = head.group(1) + "}";
            }
            if (begun >= 0 && lines[i].equals(closing)) {
                due.holds("at most sixty lines: " + lines[begun].trim(), i - begun <= 60);
                begun = -1;
            }
        }
    }
}
