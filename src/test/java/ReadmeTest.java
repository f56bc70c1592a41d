import java.lang.reflect.Method;
import java.nio.file.Files;
import java.nio.file.Path;
import java.util.List;
import java.util.regex.Matcher;
import java.util.regex.Pattern;

/** README.md says what is so: its examples answer as it says, and it names every call and every refusal. */
public final class ReadmeTest {
    private static final Pattern TEXT = Pattern.compile("String text = \"([^\"]*)\";");
    private static final Pattern CALL = Pattern.compile("wheel\\.(\\w+)\\(([^()]*)\\);\\s*// (-?[0-9]+|[A-Z]+)\\b.*");
    private static final Check check = new Check("ReadmeTest");

    public static void main(String[] args) throws Exception {
        List<String> lines = Files.readAllLines(Path.of("README.md"));
        examples(lines);
        names(String.join("\n", lines));
        check.end();
    }

    private static void examples(List<String> lines) throws Exception {
        TurningWheel wheel = null;
        int answers = 0;
        boolean code = false;
        for (String line : lines) {
            if (line.startsWith("```")) {
                code = line.equals("```java");
                wheel = new TurningWheel();
                continue;
            }
            Matcher text = TEXT.matcher(line);
            Matcher call = CALL.matcher(line);
            if (code && text.matches()) {
                Check.feed(wheel, text.group(1));
            } else if (code && call.matches()) {
                answers++;
                check.due(line, answer(wheel, call.group(1), call.group(2)), number(call.group(3)));
            } else if (code) {
                check.due(line + ": a call whose answer is not told", line.startsWith("wheel.") ? 1 : 0, 0);
            }
        }
        check.due("there are examples", answers > 10 ? 1 : 0, 1);
    }

    private static int answer(TurningWheel wheel, String name, String arguments) throws Exception {
        String[] words = arguments.isEmpty() ? new String[0] : arguments.split(", *");
        for (Method method : TurningWheel.class.getMethods()) {
            if (method.getName().equals(name) && method.getParameterCount() == words.length) {
                Object[] values = new Object[words.length];
                for (int i = 0; i < words.length; i++) {
                    boolean yesOrNo = method.getParameterTypes()[i] == boolean.class;
                    values[i] = yesOrNo ? (Object) Boolean.valueOf(words[i]) : (Object) Integer.valueOf(words[i]);
                }
                return (Integer) method.invoke(wheel, values);
            }
        }
        throw new IllegalArgumentException("README.md calls " + name + "(" + arguments + "), which there is not");
    }

    private static int number(String word) throws Exception {
        return Character.isLetter(word.charAt(0)) ? TurningWheel.class.getField(word).getInt(null) : Integer.parseInt(word);
    }

    private static void names(String page) throws Exception {
        for (Method method : TurningWheel.class.getDeclaredMethods()) {
            if (java.lang.reflect.Modifier.isPublic(method.getModifiers())) {
                check.due("row of " + method.getName(), page.contains("\n| `" + method.getName() + "(") ? 1 : 0, 1);
            }
        }
        for (String refusal : List.of("UNKNOWN", "OUTSIDE", "NOT", "FULL", "NONE")) {
            String told = "`" + refusal + "` (" + number(refusal) + ")";
            check.due("README.md says " + told, page.contains(told) ? 1 : 0, 1);
        }
        check.due("README.md says how tests are run", page.contains("\n    bash .ci/run\n") ? 1 : 0, 1);
    }
}
