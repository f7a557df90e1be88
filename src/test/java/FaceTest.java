import java.io.IOException;
import java.lang.reflect.Constructor;
import java.lang.reflect.Field;
import java.lang.reflect.Method;
import java.lang.reflect.Modifier;
import java.nio.file.Files;
import java.nio.file.Path;
import java.util.Set;
import java.util.TreeSet;
import java.util.regex.Matcher;
import java.util.regex.Pattern;

/** The public face, and those rules of LANGUAGE.md that can be seen from the class and its text. */
public final class FaceTest {
    private static final Due DUE = new Due("FaceTest");
    private static final String FACE = "place:2 machine:2 pilot:2 load:4 hour:4 feed:2 rule:0 drop:0 says:4 hang:2 off:1 "
            + "may:3 fly:3 fuel:1 minute:1 about:2 pilotOf:2 cargo:2 flight:2 lift:3 pack:2 list:1 order:2 ordered:1 count:1";

    public static void main(String[] args) throws IOException {
        constants();
        face();
        nestedClasses();
        String source = Files.readString(Path.of("src/main/java/HutLift.java"));
        text(source);
        sizes(source);
        DUE.end();
    }

    private static void constants() {
        DUE.is("NONE", HutLift.NONE, -1);
        DUE.is("FULL", HutLift.FULL, -2);
        DUE.is("STATE", HutLift.STATE, -3);
    }

    private static void face() {
        int modifiers = HutLift.class.getModifiers();
        DUE.holds("public and final", Modifier.isPublic(modifiers) && Modifier.isFinal(modifiers));
        Set<String> open = new TreeSet<>();
        for (Method m : HutLift.class.getDeclaredMethods()) {
            if (!Modifier.isPrivate(m.getModifiers())) {
                open.add(m.getName() + ":" + m.getParameterCount());
                DUE.holds(m.getName() + " is public, of an object", Modifier.isPublic(m.getModifiers()) && !Modifier.isStatic(m.getModifiers()));
                DUE.holds(m.getName() + " answers an int", m.getReturnType() == int.class);
            }
        }
        DUE.holds("methods: " + open, open.equals(new TreeSet<>(Set.of(FACE.split(" ")))));
        Set<String> fields = new TreeSet<>();
        for (Field f : HutLift.class.getDeclaredFields()) {
            if (!Modifier.isPrivate(f.getModifiers())) {
                fields.add(f.getName());
            }
        }
        DUE.holds("fields: " + fields, fields.equals(Set.of("NONE", "FULL", "STATE")));
        Constructor<?>[] made = HutLift.class.getDeclaredConstructors();
        DUE.holds("one constructor", made.length == 1 && made[0].getParameterCount() == 0 && Modifier.isPublic(made[0].getModifiers()));
    }

    private static void nestedClasses() {
        Set<String> open = new TreeSet<>();
        for (String call : FACE.split(" ")) {
            open.add(call.substring(0, call.indexOf(':')));
        }
        Class<?>[] nested = HutLift.class.getDeclaredClasses();
        DUE.holds("classes: " + nested.length, nested.length <= 12);
        for (Class<?> c : nested) {
            DUE.holds(c.getName() + " is static", Modifier.isStatic(c.getModifiers()));
            DUE.holds(c.getName() + " is not open", !Modifier.isPublic(c.getModifiers()) && !Modifier.isProtected(c.getModifiers()));
            for (Method m : c.getDeclaredMethods()) {
                DUE.holds(m.getName() + " bears the name of a call", !open.contains(m.getName()));
                DUE.holds(m.getName() + " takes too many", m.getParameterCount() <= 7);
            }
            for (Field f : c.getDeclaredFields()) {
                DUE.holds("static " + f.getName(), !Modifier.isStatic(f.getModifiers()));
            }
        }
        for (Field f : HutLift.class.getDeclaredFields()) {
            DUE.holds("static " + f.getName() + " is final", !Modifier.isStatic(f.getModifiers()) || Modifier.isFinal(f.getModifiers()));
        }
    }

    private static void text(String source) {
        String code = source.replaceAll("(?s)/\\*.*?\\*/", "").replaceAll("//[^\n]*", "")
                .replaceAll("\"[^\"]*\"", "\"\"").replaceAll("'[^']*'", "' '");
        String[] barred = {"\\b(throw|throws|try|catch|finally|synchronized|assert|package|native|volatile|transient)\\b",
            "->", "::", "\\b(Object|System\\.(?!arraycopy)|Thread|Random|Runtime|Class)\\b", "Exact\\b",
            "\\b(equals|hashCode|toString)\\b", "@"};
        for (String pattern : barred) {
            Matcher found = Pattern.compile(pattern).matcher(code);
            DUE.holds("LANGUAGE.md bars " + (found.find() ? found.group() : pattern), !found.reset().find());
        }
        Matcher imports = Pattern.compile("import ([\\w.]+);").matcher(code);
        while (imports.find()) {
            DUE.holds("import of " + imports.group(1), imports.group(1).equals("java.util.ArrayList"));
        }
        for (char c : source.toCharArray()) {
            if (c > 126) {
                DUE.holds("a character beyond ASCII: " + (int) c, false);
            }
        }
    }

    /** Rule 11: short methods, few parameters, few fields. */
    private static void sizes(String source) {
        Pattern head = Pattern.compile(" +(public |private |static |final )*[\\w<>\\[\\]]+ ?\\w*\\([^;]*\\) \\{");
        String name = "";
        String close = "";
        int from = -1;
        int at = 0;
        int methods = 0;
        for (String line : source.split("\n")) {
            at++;
            boolean opens = head.matcher(line).matches() && !line.matches(" *(\\} )?(if|for|while|switch|else|return)\\b.*");
            if (opens) {
                name = line.trim();
                close = line.substring(0, line.length() - line.stripLeading().length()) + "}";
                from = at;
                methods++;
            }
            if (from >= 0 && line.equals(close)) {
                DUE.holds(name + " is too long", at - from < 60);
                from = -1;
            }
        }
        DUE.holds("methods seen: " + methods, methods > 60);
        DUE.holds("HutLift has too many fields", ownFields(HutLift.class) <= 20);
        for (Class<?> c : HutLift.class.getDeclaredClasses()) {
            DUE.holds(c.getName() + " has too many fields", ownFields(c) <= 20);
        }
        for (Method m : HutLift.class.getDeclaredMethods()) {
            DUE.holds(m.getName() + " takes too many", m.getParameterCount() <= 7);
        }
    }

    private static int ownFields(Class<?> c) {
        int fields = 0;
        for (Field f : c.getDeclaredFields()) {
            fields += Modifier.isStatic(f.getModifiers()) ? 0 : 1;
        }
        return fields;
    }
}
