import java.io.IOException;
import java.lang.reflect.Method;
import java.lang.reflect.Modifier;
import java.nio.file.Files;
import java.nio.file.Path;
import java.util.regex.Matcher;
import java.util.regex.Pattern;

/** README.md tells how the class is used: its example, its rows and its list of calls hold. */
public final class ReadmeTest {
    private static final Pattern TEXT = Pattern.compile("String text = \"(.*)\";");
    private static final Pattern CALL = Pattern.compile("x\\.(\\w+)\\(([\\d, ]*)\\); +// (-?\\d+)\\b");
    private static final Pattern PRINTED = Pattern.compile("// \\d+ signs: (\\S+)");
    private static final Pattern ROW = Pattern.compile("\\| (\\d) \\w+ \\| `(\\S+)` \\|");

    private static int wrong = 0;

    public static void main(String[] args) throws IOException, ReflectiveOperationException {
        String readme = Files.readString(Path.of("README.md"));
        checkExample(readme);
        checkRows(readme);
        checkCalls(readme);
        System.out.println(wrong == 0 ? "README.md tells what holds" : wrong + " of README.md do not hold");
        System.exit(wrong == 0 ? 0 : 1);
    }

    private static void checkExample(String readme) throws ReflectiveOperationException {
        Matcher text = TEXT.matcher(readme);
        due("the example has a text", true, text.find());
        HarbourText x = new HarbourText();
        collect(x, text.group(1));
        int figures = 0;
        for (Matcher call = CALL.matcher(readme); call.find(); figures++) {
            due("x." + call.group(1) + "(" + call.group(2) + ")", call.group(3),
                    String.valueOf(invoke(x, call.group(1), call.group(2))));
        }
        due("the example's figures", 11, figures);
        Matcher printed = PRINTED.matcher(readme);
        due("the example is printed", true, printed.find());
        due("what the example prints", printed.group(1), printedBy(x));
    }

    private static void checkRows(String readme) {
        int kinds = 0;
        for (Matcher row = ROW.matcher(readme); row.find(); kinds++) {
            HarbourText x = new HarbourText();
            collect(x, row.group(2));
            due(row.group(2) + " is read", 1, x.read());
            due(row.group(2) + " is of its kind", row.group(1), String.valueOf(x.piece(0, 0)));
        }
        due("the rows of kinds", 6, kinds);
    }

    private static void checkCalls(String readme) {
        for (Method method : HarbourText.class.getDeclaredMethods()) {
            if (Modifier.isPublic(method.getModifiers())) {
                due("the list of calls tells " + method.getName(), true,
                        readme.contains("\n| `" + method.getName() + "("));
            }
        }
    }

    private static Object invoke(HarbourText x, String name, String args) throws ReflectiveOperationException {
        String[] parts = args.isEmpty() ? new String[0] : args.split(", ");
        Class<?>[] types = new Class<?>[parts.length];
        Object[] values = new Object[parts.length];
        for (int i = 0; i < parts.length; i++) {
            types[i] = int.class;
            values[i] = Integer.valueOf(parts[i]);
        }
        return HarbourText.class.getMethod(name, types).invoke(x, values);
    }

    private static void collect(HarbourText x, String text) {
        for (int i = 0; i < text.length(); i++) {
            due("sign " + i + " of " + text, true, x.sign(text.charAt(i)));
        }
    }

    private static String printedBy(HarbourText x) {
        StringBuilder signs = new StringBuilder();
        int many = x.print();
        for (int i = 0; i < many; i++) {
            signs.append((char) x.at(i));
        }
        return signs.toString();
    }

    private static void due(String what, Object due, Object answer) {
        if (!due.equals(answer)) {
            wrong++;
            System.out.println(what + ": due " + due + ", but " + answer);
        }
    }
}
