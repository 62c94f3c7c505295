import java.lang.reflect.Method;
import java.nio.file.Files;
import java.nio.file.Path;
import java.util.List;
import java.util.regex.Matcher;
import java.util.regex.Pattern;
import java.util.stream.Collectors;
import java.util.stream.Stream;

/** README.md holds as it stands: the calls told there answer what stands behind them, and each test is named. */
final class ReadmeTest {
    private static final Pattern CALL = Pattern.compile("x\\.(\\w+)\\((.*)\\);\\s+// (-?\\d+|true|false)\\b.*");

    private ReadmeTest() {
    }

    public static void main(String[] args) throws Exception {
        Check check = new Check("ReadmeTest");
        String readme = Files.readString(Path.of("README.md"));
        calls(check, readme);
        for (String name : tests()) {
            check.due(name + " is named", readme.contains("`" + name + "`"), true);
        }
        check.end();
    }

    private static void calls(Check check, String readme) throws Exception {
        int begin = readme.indexOf("```java\n");
        check.due("there are calls", begin >= 0, true);
        BabyRound x = new BabyRound();
        int calls = 0;
        for (String line : readme.substring(begin + 8, readme.indexOf("```", begin + 8)).split("\n")) {
            Matcher m = CALL.matcher(line);
            if (m.matches()) {
                check.due(line, answer(x, m.group(1), m.group(2)), number(m.group(3)));
                calls++;
            } else {
                check.due("no call: " + line, line.isBlank() || line.startsWith("//")
                    || line.equals("BabyRound x = new BabyRound();"), true);
            }
        }
        check.due("a text is put and read, things are done and asked", calls >= 20, true);
    }

    private static long answer(BabyRound x, String name, String told) throws Exception {
        for (Method method : BabyRound.class.getMethods()) {
            if (method.getName().equals(name)) {
                String[] words = told.isEmpty() ? new String[0] : told.split(", ");
                Object[] values = new Object[words.length];
                for (int i = 0; i < words.length; i++) {
                    if (method.getParameterTypes()[i] == boolean.class) {
                        values[i] = Boolean.valueOf(words[i]);
                    } else {
                        values[i] = Integer.decode(words[i]);
                    }
                }
                return number(String.valueOf(method.invoke(x, values)));
            }
        }
        throw new IllegalArgumentException("no method " + name);
    }

    private static long number(String answer) {
        return answer.equals("true") ? 1 : answer.equals("false") ? 0 : Long.parseLong(answer);
    }

    private static List<String> tests() throws Exception {
        try (Stream<Path> files = Files.list(Path.of("src/test/java"))) {
            return files.map(file -> file.getFileName().toString()).filter(name -> name.endsWith("Test.java"))
                .map(name -> name.replace(".java", "")).sorted().collect(Collectors.toList());
        }
    }
}
