import java.io.IOException;
import java.lang.reflect.Method;
import java.nio.file.DirectoryStream;
import java.nio.file.Files;
import java.nio.file.Path;
import java.util.TreeSet;
import java.util.regex.Matcher;
import java.util.regex.Pattern;

/**
 * That README.md says what is so: each call it shows answers what stands behind it, every call of the face is shown,
 * and its table names the tests that there are.
 */
public final class ReadmeTest {
    private static final Pattern CALL = Pattern.compile(
        "    (Double\\.longBitsToDouble\\()?x\\.(\\w+)\\(([^()]*)\\)(\\))?; +// (-?[\\w.]+)(: .*)?");
    private static int wrong = 0;

    public static void main(String[] args) throws Exception {
        String page = Files.readString(Path.of("README.md"));
        TreeSet<String> shown = shownCalls(page);
        for (Method method : JetTrees.class.getDeclaredMethods()) {
            if (java.lang.reflect.Modifier.isPublic(method.getModifiers())) {
                hold(shown.contains(method.getName()), "no call of " + method.getName() + " is shown");
            }
        }
        tests(page);
        System.out.println("ReadmeTest: " + shown.size() + " methods are shown, " + wrong + " things are not so");
        System.exit(wrong == 0 ? 0 : 1);
    }

    /** All blocks go on with one object, from where the page makes it. */
    private static TreeSet<String> shownCalls(String page) throws Exception {
        TreeSet<String> shown = new TreeSet<>();
        JetTrees x = null;
        for (String line : page.split("\n")) {
            if (line.equals("    JetTrees x = new JetTrees();")) {
                x = new JetTrees();
            } else if (line.startsWith("    x.") || line.startsWith("    Double.")) {
                Matcher call = CALL.matcher(line);
                boolean read = x != null && call.matches() && (call.group(1) == null) == (call.group(4) == null);
                hold(read, "can't be read: " + line);
                if (read) {
                    shown.add(call.group(2));
                    String answer = answer(x, call);
                    hold(answer.equals(call.group(5)), "answers " + answer + ": " + line);
                }
            }
        }
        return shown;
    }

    private static String answer(JetTrees x, Matcher call) throws Exception {
        String[] words = call.group(3).isEmpty() ? new String[0] : call.group(3).split(", ");
        for (Method method : JetTrees.class.getDeclaredMethods()) {
            if (method.getName().equals(call.group(2)) && method.getParameterCount() == words.length) {
                Object[] arguments = new Object[words.length];
                for (int i = 0; i < words.length; i++) {
                    boolean isLong = method.getParameterTypes()[i] == long.class;
                    if (isLong) {
                        arguments[i] = Long.valueOf(words[i]);
                    } else {
                        arguments[i] = Integer.valueOf(words[i]);
                    }
                }
                Object answer = method.invoke(x, arguments);
                boolean isDouble = call.group(1) != null && answer instanceof Long;
                return isDouble ? String.valueOf(Double.longBitsToDouble((Long) answer)) : String.valueOf(answer);
            }
        }
        return "nothing, there is no such call";
    }

    private static void tests(String page) throws IOException {
        TreeSet<String> there = new TreeSet<>();
        try (DirectoryStream<Path> files = Files.newDirectoryStream(Path.of("src/test/java"), "*Test.java")) {
            for (Path file : files) {
                there.add(file.getFileName().toString().replace(".java", ""));
            }
        }
        TreeSet<String> told = new TreeSet<>();
        for (String line : page.split("\n")) {
            Matcher name = Pattern.compile("`(\\w+Test)`").matcher(line.startsWith("| `") ? line : "");
            while (name.find()) {
                told.add(name.group(1));
            }
        }
        hold(told.equals(there), "the table has " + told + ", there are " + there);
    }

    private static void hold(boolean holds, String what) {
        if (!holds) {
            wrong++;
            System.out.println(what);
        }
    }
}
