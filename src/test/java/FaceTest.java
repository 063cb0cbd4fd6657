import java.lang.reflect.Constructor;
import java.lang.reflect.Field;
import java.lang.reflect.Method;
import java.lang.reflect.Modifier;
import java.nio.file.Files;
import java.nio.file.Path;
import java.util.ArrayList;
import java.util.Arrays;
import java.util.List;
import java.util.TreeSet;
import java.util.regex.Matcher;
import java.util.regex.Pattern;

/** That the class has just the face of the document, and keeps to the rules of LANGUAGE.md that can be seen from outside. */
public final class FaceTest {
    private static int wrong = 0;

    public static void main(String[] args) throws Exception {
        face();
        insides();
        source(Files.readString(Path.of("src/main/java/JetTrees.java")));
        System.out.println(wrong == 0 ? "FaceTest: the face and the rules hold" : "FaceTest: " + wrong + " faults");
        System.exit(wrong == 0 ? 0 : 1);
    }

    private static void hold(boolean holds, String what) {
        if (!holds) {
            wrong++;
            System.out.println("not so: " + what);
        }
    }

    private static void face() throws Exception {
        TreeSet<String> due = new TreeSet<>();
        Matcher m = Pattern.compile("(?m)^    public (int|long|boolean) (\\w+)\\((.*)\\);$")
            .matcher(Files.readString(Path.of("../shared/DOC.md")));
        while (m.find()) {
            due.add(m.group(1) + " " + m.group(2) + "(" + m.group(3).replaceAll(" \\w+(,|$)", "$1").replace(" ", "") + ")");
        }
        TreeSet<String> got = new TreeSet<>();
        for (Method method : JetTrees.class.getDeclaredMethods()) {
            if (Modifier.isPrivate(method.getModifiers())) {
                continue;
            }
            hold(Modifier.isPublic(method.getModifiers()) && !Modifier.isStatic(method.getModifiers()), method.toString());
            List<String> types = new ArrayList<>();
            for (Class<?> type : method.getParameterTypes()) {
                types.add(type.getName());
            }
            got.add(method.getReturnType().getName() + " " + method.getName() + "(" + String.join(",", types) + ")");
        }
        hold(due.size() == 62, "the document has 62 methods: " + due.size());
        hold(due.equals(got), "the methods are the document's: " + due + " but " + got);
        hold(Modifier.isPublic(JetTrees.class.getModifiers()) && Modifier.isFinal(JetTrees.class.getModifiers()), "public, final");
        Constructor<?>[] constructors = JetTrees.class.getDeclaredConstructors();
        hold(constructors.length == 1 && Modifier.isPublic(constructors[0].getModifiers())
            && constructors[0].getParameterCount() == 0, "one constructor");
        for (Field field : JetTrees.class.getDeclaredFields()) {
            boolean none = field.getName().equals("NONE");
            hold(none ? field.getModifiers() == (Modifier.PUBLIC | Modifier.STATIC | Modifier.FINAL)
                : Modifier.isPrivate(field.getModifiers()), "the field " + field.getName());
        }
    }

    private static void insides() {
        TreeSet<String> names = new TreeSet<>();
        for (Method method : JetTrees.class.getMethods()) {
            names.add(method.getName());
        }
        Class<?>[] inside = JetTrees.class.getDeclaredClasses();
        hold(inside.length <= 12, "some twelve classes");
        List<Class<?>> all = new ArrayList<>(Arrays.asList(inside));
        all.add(JetTrees.class);
        for (Class<?> c : all) {
            hold(c == JetTrees.class || Modifier.isStatic(c.getModifiers()) && !Modifier.isPublic(c.getModifiers()), c.getName());
            int fields = 0;
            for (Field field : c.getDeclaredFields()) {
                boolean fixed = Modifier.isStatic(field.getModifiers());
                fields += fixed ? 0 : 1;
                hold(!fixed || Modifier.isFinal(field.getModifiers()) && field.getType().isPrimitive(), "static " + field);
            }
            hold(fields <= 20, "some twenty fields: " + c.getName());
            for (Method method : c.getDeclaredMethods()) {
                hold(method.getParameterCount() <= 7, "seven parameters: " + method);
                hold(c == JetTrees.class && Modifier.isPublic(method.getModifiers()) || !names.contains(method.getName()),
                    "no name of a public one: " + method);
            }
        }
    }

    private static void source(String text) {
        String code = text.replaceAll("(?s)/\\*.*?\\*/", "").replaceAll("//[^\n]*", "");
        String[] never = {"->", "::", "\\bimport\\b", "\\bpackage\\b", "\\bthrow\\b", "\\bthrows\\b", "\\btry\\b", "\\bcatch\\b",
            "\\bfinally\\b", "\\bsynchronized\\b", "\\bassert\\b", "\\binstanceof\\b", "\\bhashCode\\b", "\\btoString\\b",
            "\\bequals\\b", "Exact\\b", "static\\s*\\{", "\"", "\\bfloat\\b", "Object\\b", "\\bDouble\\b", "@",
            "\\bvar\\b", "\\brecord\\b", "\\bnative\\b", "\\bvolatile\\b"};
        for (String pattern : never) {
            hold(!Pattern.compile(pattern).matcher(code).find(), "the source has no " + pattern);
        }
        TreeSet<String> used = new TreeSet<>();
        Matcher m = Pattern.compile("\\b(Math|Long|Integer|System|Arrays|List)\\.(\\w+)").matcher(code);
        while (m.find()) {
            used.add(m.group());
        }
        List<String> allowed = List.of("Math.abs", "Math.max", "Math.min", "Math.floorDiv", "Math.floorMod", "Long.bitCount",
            "System.arraycopy");
        hold(allowed.containsAll(used), "only what the library may give: " + used);
        for (int i = 0; i < text.length(); i++) {
            hold(text.charAt(i) < 127, "a sign outside 1 to 127");
        }
        int start = 0;
        String[] lines = text.split("\n");
        for (int i = 0; i < lines.length; i++) {
            hold(lines[i].length() <= 130, "a long line: " + (i + 1));
            if (lines[i].matches(" {4}( {4})?\\w.*\\) \\{")) {
                start = i;
            } else if (lines[i].matches(" {4}( {4})?\\}")) {
                hold(i - start < 60 || lines[start].contains("class "), "a long method: line " + (start + 1));
            }
        }
    }
}
