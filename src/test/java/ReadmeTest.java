import java.io.IOException;
import java.lang.reflect.InvocationTargetException;
import java.lang.reflect.Method;
import java.lang.reflect.Modifier;
import java.nio.file.Files;
import java.nio.file.Path;
import java.util.List;
import java.util.Set;
import java.util.TreeSet;
import java.util.regex.Matcher;
import java.util.regex.Pattern;

/** The calls that README.md shows, in their order, answer what README.md says behind them. */
public final class ReadmeTest {
    private static final Pattern MAKING =
        Pattern.compile("PortDrawer port = new PortDrawer\\((-?\\d+)L\\);\\s+// .+");
    private static final Pattern CALL =
        Pattern.compile("port\\.(\\w+)\\(([^()]*)\\);\\s+// ([^:]+): .+");

    public static void main(String[] args) throws IOException {
        List<String> lines = Files.readAllLines(Path.of("README.md"));
        int first = lines.indexOf("```java") + 1;
        int end = first + lines.subList(first, lines.size()).indexOf("```");
        Check.due("README.md has a block of Java", true, () -> first > 0 && end > first);
        if (first > 0 && end > first) {
            playBlock(lines.subList(first, end));
        }
        Check.end();
    }

    private static void playBlock(List<String> lines) {
        Matcher making = MAKING.matcher(lines.get(0));
        Check.due("makes an object: " + lines.get(0), true, making::matches);
        if (!making.matches()) {
            return;
        }
        PortDrawer port = new PortDrawer(Long.parseLong(making.group(1)));
        Set<String> shown = new TreeSet<>();
        for (String line : lines.subList(1, lines.size())) {
            Matcher call = CALL.matcher(line);
            Check.due("a call with its answer: " + line, true, call::matches);
            if (call.matches()) {
                shown.add(call.group(1));
                Check.due(line, call.group(3), () -> told(port, call.group(1), call.group(2)));
            }
        }
        Check.due("methods shown", faceMethods(), () -> shown);
    }

    private static Set<String> faceMethods() {
        Set<String> names = new TreeSet<>();
        for (Method m : PortDrawer.class.getDeclaredMethods()) {
            if (Modifier.isPublic(m.getModifiers())) {
                names.add(m.getName());
            }
        }
        return names;
    }

    /** The answer as README.md writes it. */
    private static String told(PortDrawer port, String name, String arguments) {
        try {
            Method method = methodOf(name);
            Object answer = method.invoke(port, values(method.getParameterTypes(), arguments));
            return answer.equals(PortDrawer.NONE) ? "NONE" : answer.toString();
        } catch (InvocationTargetException e) {
            return "throws " + e.getCause().getClass().getSimpleName();
        } catch (IllegalAccessException e) {
            return "cannot be called";
        }
    }

    private static Method methodOf(String name) {
        for (Method m : PortDrawer.class.getMethods()) {
            if (m.getName().equals(name)) {
                return m;
            }
        }
        throw new IllegalArgumentException("no method " + name);
    }

    private static Object[] values(Class<?>[] types, String arguments) {
        String[] texts = arguments.isEmpty() ? new String[0] : arguments.split(", ");
        Object[] values = new Object[texts.length];
        for (int i = 0; i < texts.length; i++) {
            if (types[i] == boolean.class) {
                values[i] = Boolean.valueOf(texts[i]);
            } else if (types[i] == long.class) {
                values[i] = Long.valueOf(texts[i].replace("L", ""));
            } else {
                values[i] = Integer.valueOf(texts[i]);
            }
        }
        return values;
    }
}
