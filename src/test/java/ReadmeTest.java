import java.io.IOException;
import java.lang.reflect.Method;
import java.lang.reflect.Modifier;
import java.nio.file.Files;
import java.nio.file.Path;
import java.util.Set;
import java.util.TreeSet;
import java.util.regex.Matcher;
import java.util.regex.Pattern;

/** What README.md shows holds: each call's line answers the number behind it, and no call is left out. */
public final class ReadmeTest {
    private static final Due DUE = new Due("ReadmeTest");
    private static final Pattern CALL = Pattern.compile("x\\.(\\w+)\\((.*?)\\); *// (-?\\d+)\\b.*");

    public static void main(String[] args) throws IOException, ReflectiveOperationException {
        Set<String> shown = new TreeSet<>(), due = new TreeSet<>();
        TreeOdds x = new TreeOdds();
        for (String line : Files.readAllLines(Path.of("README.md"))) {
            if (!line.startsWith("x.")) continue;
            Matcher m = CALL.matcher(line);
            DUE.yes("a call and its answer: " + line, m.matches());
            if (!m.matches()) continue;
            shown.add(m.group(1));
            DUE.is(line, answer(x, m.group(1), m.group(2)), Long.parseLong(m.group(3)));
        }
        for (Method m : TreeOdds.class.getDeclaredMethods()) if (Modifier.isPublic(m.getModifiers())) due.add(m.getName());
        DUE.yes("every call is shown, shown are " + shown, shown.equals(due));
        DUE.end();
    }

    private static long answer(TreeOdds x, String name, String numbers) throws ReflectiveOperationException {
        String[] told = numbers.isEmpty() ? new String[0] : numbers.split(", ");
        for (Method m : TreeOdds.class.getDeclaredMethods()) {
            if (!m.getName().equals(name) || m.getParameterCount() != told.length) continue;
            Object[] given = new Object[told.length];
            for (int i = 0; i < told.length; i++) {
                if (m.getParameterTypes()[i] == long.class) given[i] = number(told[i]);
                else given[i] = (int) number(told[i]);
            }
            return ((Number) m.invoke(x, given)).longValue();
        }
        throw new IllegalStateException("no such call: " + name + "(" + numbers + ")");
    }

    private static long number(String told) {
        if (told.equals("TreeOdds.NONE")) return TreeOdds.NONE;
        if (told.startsWith("'")) return told.charAt(1);
        return told.startsWith("0b") ? Long.parseLong(told.substring(2), 2) : Long.parseLong(told);
    }
}
