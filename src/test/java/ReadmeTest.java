import java.lang.reflect.Method;
import java.nio.file.Files;
import java.nio.file.Path;
import java.util.Set;
import java.util.TreeSet;
import java.util.regex.Matcher;
import java.util.regex.Pattern;

/** The calls that README.md shows answer what stands behind them, and every call of the face is among them. */
public final class ReadmeTest {
    private static final Check C = new Check("ReadmeTest");
    private static final Pattern MAKING =
            Pattern.compile("HarvestSteps x = new HarvestSteps\\((\\d+), (\\d+), (\\d+)\\);.*");
    private static final Pattern CALL = Pattern.compile("x\\.(\\w+)\\((.*)\\); +// (-?\\d+)(:.*)?");

    public static void main(String[] args) throws Exception {
        Set<String> shown = new TreeSet<>();
        HarvestSteps x = null;
        for (String line : Files.readAllLines(Path.of("README.md"))) {
            Matcher making = MAKING.matcher(line);
            if (making.matches()) {
                x = new HarvestSteps(number(making, 1), number(making, 2), number(making, 3));
            } else if (line.startsWith("x.")) {
                Matcher call = CALL.matcher(line);
                boolean readable = x != null && call.matches();
                C.holds("a call on an object, with its answer: " + line, readable);
                if (readable) {
                    shown.add(call.group(1));
                    C.due(line, answer(x, call.group(1), call.group(2)), number(call, 3));
                }
            }
        }
        for (Method method : HarvestSteps.class.getMethods()) {
            if (method.getDeclaringClass() == HarvestSteps.class) {
                C.holds(method.getName() + " is shown", shown.contains(method.getName()));
            }
        }
        C.end();
    }

    private static int number(Matcher matcher, int group) {
        return Integer.parseInt(matcher.group(group));
    }

    private static int answer(HarvestSteps x, String name, String written) throws Exception {
        String[] words = written.isEmpty() ? new String[0] : written.split(", ");
        Class<?>[] types = new Class<?>[words.length];
        Object[] values = new Object[words.length];
        for (int i = 0; i < words.length; i++) {
            boolean truth = words[i].equals("true") || words[i].equals("false");
            types[i] = truth ? boolean.class : int.class;
            values[i] = truth ? (Object) Boolean.valueOf(words[i]) : (Object) Integer.valueOf(words[i]);
        }
        return (Integer) HarvestSteps.class.getMethod(name, types).invoke(x, values);
    }
}
