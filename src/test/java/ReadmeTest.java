import java.io.IOException;
import java.lang.reflect.InvocationTargetException;
import java.lang.reflect.Method;
import java.nio.file.Files;
import java.nio.file.Path;
import java.util.regex.Matcher;
import java.util.regex.Pattern;

/** The calls that README.md shows answer what it tells behind them. */
final class ReadmeTest {
    private static final Pattern TAPE = Pattern.compile("tape\\(house, \"(.*)\"\\);");
    private static final Pattern CALL = Pattern.compile("house\\.(\\w+)\\((.*)\\);\\s+// (-?\\d+).*");
    private static final Pattern NEW = Pattern.compile("IntegerHouse house = new IntegerHouse\\(\\);");
    private static final int LEAST_CALLS = 40;

    public static void main(String[] args) throws IOException, ReflectiveOperationException {
        IntegerHouse house = new IntegerHouse();
        int calls = 0;
        for (String line : Files.readAllLines(Path.of("README.md"))) {
            Matcher tape = TAPE.matcher(line);
            Matcher call = CALL.matcher(line);
            if (NEW.matcher(line).matches()) {
                house = new IntegerHouse();
            } else if (tape.matches()) {
                Checks.tape(house, tape.group(1));
            } else if (call.matches()) {
                Checks.due(line, answer(house, call.group(1), call.group(2)), call.group(3));
                calls++;
            } else {
                Checks.due("a line that is none of these: " + line, line.startsWith("house.") || line.startsWith("tape(") ? 1 : 0, 0);
            }
        }
        Checks.due("calls that are shown", calls >= LEAST_CALLS ? 1 : 0, 1);
        Checks.finish();
    }

    private static String answer(IntegerHouse house, String name, String told) throws ReflectiveOperationException {
        for (Method method : IntegerHouse.class.getMethods()) {
            if (method.getName().equals(name) && method.getDeclaringClass() == IntegerHouse.class) {
                try {
                    return String.valueOf(method.invoke(house, arguments(method, told)));
                } catch (InvocationTargetException e) {
                    return String.valueOf(e.getCause());
                }
            }
        }
        return "no such call";
    }

    private static Object[] arguments(Method method, String told) {
        String[] texts = told.isEmpty() ? new String[0] : told.split(", ");
        Object[] all = new Object[texts.length];
        for (int k = 0; k < all.length; k++) {
            boolean truth = method.getParameterTypes()[k] == boolean.class;
            all[k] = truth ? (Object) Boolean.valueOf(texts[k]) : (Object) Integer.decode(texts[k]);
        }
        return all;
    }
}
