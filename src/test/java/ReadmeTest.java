import java.io.IOException;
import java.lang.reflect.Method;
import java.lang.reflect.Modifier;
import java.nio.file.Files;
import java.nio.file.Path;
import java.util.Set;
import java.util.TreeSet;
import java.util.regex.Matcher;
import java.util.regex.Pattern;

/** README.md's calls, from the top to the bottom, answer what it says; and it shows every call of the face. */
public final class ReadmeTest {
    private static final Pattern CALL = Pattern.compile("ford\\.(\\w+)\\((.*)\\); +// (true|false|-?\\d+): .+");
    private static final Pattern TEXT = Pattern.compile("text\\(ford, \"([^\"]*)\"\\)");

    public static void main(String[] args) throws IOException, ReflectiveOperationException {
        Set<String> missing = new TreeSet<>();
        for (Method method : SteppingStones.class.getDeclaredMethods()) {
            if (Modifier.isPublic(method.getModifiers())) {
                missing.add(method.getName());
            }
        }
        SteppingStones ford = new SteppingStones();
        for (String line : Files.readAllLines(Path.of("README.md"))) {
            Matcher call = CALL.matcher(line);
            if (call.matches()) {
                Due.is(line, answer(ford, call.group(1), call.group(2)), due(call.group(3)));
                missing.remove(call.group(1));
            }
        }
        Due.is("calls that README.md does not show: " + missing, missing.size(), 0);
        Due.end();
    }

    private static long due(String told) {
        return told.equals("true") ? 1 : told.equals("false") ? 0 : Long.parseLong(told);
    }

    private static long answer(SteppingStones ford, String name, String told) throws ReflectiveOperationException {
        Matcher text = TEXT.matcher(told);
        String row = text.find() ? text.replaceFirst("" + Due.text(ford, text.group(1))) : told;
        String[] values = row.isEmpty() ? new String[0] : row.split(", ");
        for (Method method : SteppingStones.class.getDeclaredMethods()) {
            if (method.getName().equals(name) && method.getParameterCount() == values.length) {
                Object[] arguments = new Object[values.length];
                for (int k = 0; k < values.length; k++) {
                    boolean isTruth = method.getParameterTypes()[k] == boolean.class;
                    arguments[k] = isTruth ? (Object) Boolean.valueOf(values[k]) : (Object) Long.decode(values[k]).intValue();
                }
                Object got = method.invoke(ford, arguments);
                return got instanceof Boolean ? ((Boolean) got ? 1 : 0) : (Integer) got;
            }
        }
        throw new IllegalArgumentException("README.md calls " + name + "(" + told + ")");
    }
}
