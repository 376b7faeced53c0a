import java.io.File;
import java.io.IOException;
import java.lang.reflect.Method;
import java.lang.reflect.Modifier;
import java.nio.file.Files;
import java.nio.file.Path;
import java.util.regex.Matcher;
import java.util.regex.Pattern;

/** README.md's example answers what README.md says, has every call, and README.md names every test. */
public final class ReadmeTest {
    private static final Due DUE = new Due("ReadmeTest");

    public static void main(String[] args) throws IOException, ReflectiveOperationException {
        String readme = Files.readString(Path.of("README.md"));
        Matcher block = Pattern.compile("(?s)```java\n(.*?)```").matcher(readme);
        DUE.holds("there is an example", block.find());
        String example = block.group(1);
        runExample(example);
        for (Method m : CaveBreath.class.getDeclaredMethods()) {
            if (Modifier.isPublic(m.getModifiers())) {
                DUE.holds("the example has " + m.getName(), example.contains("caves." + m.getName() + "("));
            }
        }
        for (File test : new File("src/test/java").listFiles()) {
            DUE.holds("README.md tells of " + test.getName(), readme.contains(test.getName().replace(".java", "")));
        }
        DUE.end();
    }

    private static void runExample(String example) throws ReflectiveOperationException {
        CaveBreath caves = new CaveBreath();
        Matcher text = Pattern.compile("String text = \"(.*)\";").matcher(example);
        DUE.holds("the example has a text", text.find());
        Due.write(caves, text.group(1));
        Matcher rows = Pattern.compile("(?m)^caves\\.(\\w+)\\((.*)\\); *// (-?[0-9]+)\\b").matcher(example);
        int rowsFound = 0;
        while (rows.find()) {
            rowsFound++;
            DUE.is(rows.group(0), answer(caves, rows.group(1), rows.group(2)), Long.parseLong(rows.group(3)));
        }
        DUE.holds("each call stands in a row with its answer", rowsFound == example.split("\ncaves\\.", -1).length - 1);
    }

    private static int answer(CaveBreath caves, String name, String arguments) throws ReflectiveOperationException {
        String[] told = arguments.isEmpty() ? new String[0] : arguments.split(", *");
        for (Method m : CaveBreath.class.getMethods()) {
            if (m.getName().equals(name) && m.getParameterCount() == told.length) {
                Object[] given = new Object[told.length];
                for (int k = 0; k < told.length; k++) {
                    Class<?> type = m.getParameterTypes()[k];
                    given[k] = type == boolean.class ? (Object) Boolean.valueOf(told[k])
                        : type == long.class ? (Object) Long.valueOf(told[k]) : Integer.valueOf(told[k]);
                }
                return (int) m.invoke(caves, given);
            }
        }
        throw new NoSuchMethodException(name);
    }
}
