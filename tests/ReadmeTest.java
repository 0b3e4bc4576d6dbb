import java.io.IOException;
import java.lang.reflect.InvocationTargetException;
import java.lang.reflect.Method;
import java.nio.file.Files;
import java.nio.file.Path;
import java.util.regex.Matcher;
import java.util.regex.Pattern;

/** The calls that README.md shows answer what it says behind them. */
public final class ReadmeTest {
    private static final Pattern CALL = Pattern.compile("x\\.(\\w+)\\((.*)\\); +// (-?\\d+|true|false)\\b.*");

    public static void main(String[] args) throws IOException, InvocationTargetException, IllegalAccessException {
        Due due = new Due("readme");
        InkBars x = new InkBars();
        int calls = 0;
        for (String line : Files.readAllLines(Path.of("README.md"))) {
            Matcher m = CALL.matcher(line);
            if (m.matches()) {
                calls++;
                String[] told = m.group(2).isEmpty() ? new String[0] : m.group(2).split(", ");
                due.is(line, answer(x, m.group(1), told), number(m.group(3)));
            } else {
                due.is(line + " is a call without an answer", line.startsWith("x."), false);
            }
        }
        due.is("calls stand in it", calls > 20, true);
        due.end();
    }

    private static long answer(InkBars x, String name, String[] told)
        throws InvocationTargetException, IllegalAccessException {
        Object[] numbers = new Object[told.length];
        for (int i = 0; i < told.length; i++) {
            numbers[i] = told[i].equals("InkBars.NONE") ? InkBars.NONE : Integer.decode(told[i]);
        }
        for (Method method : InkBars.class.getMethods()) {
            if (method.getName().equals(name)) {
                return number(method.invoke(x, numbers).toString());
            }
        }
        throw new IllegalArgumentException("no call " + name);
    }

    private static long number(String answer) {
        return answer.equals("true") ? 1 : answer.equals("false") ? 0 : Long.parseLong(answer);
    }
}
