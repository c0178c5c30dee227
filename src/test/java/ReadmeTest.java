import java.lang.reflect.Method;
import java.nio.file.Files;
import java.nio.file.Path;
import java.util.Arrays;
import java.util.Set;
import java.util.TreeSet;
import java.util.regex.Matcher;
import java.util.regex.Pattern;

/** README.md: the calls of its example answer what stands beside them, and its table names every call once. */
public final class ReadmeTest extends Check {
    private static final Pattern TOLD = Pattern.compile("\"([^\"]*)\"\\.toCharArray");
    private static final Pattern CALL = Pattern.compile("(?m)^b\\.(\\w+)\\(([^)]*)\\); +// (-?\\d+)");
    private static final Pattern NAME = Pattern.compile("`(\\w+)`");

    public static void main(String[] args) throws Exception {
        String readme = Files.readString(Path.of("README.md"));
        example(readme);
        table(readme);
        end();
    }

    private static void example(String readme) throws Exception {
        Matcher told = TOLD.matcher(readme);
        due("the example has a text", told.find() ? 1 : 0, 1);
        BarberJars x = typed(new BarberJars(), told.group(1));
        Matcher call = CALL.matcher(readme);
        int calls = 0;
        while (call.find()) {
            due(call.group(), answer(x, call.group(1), call.group(2)), Long.parseLong(call.group(3)));
            calls++;
        }
        due("lines of the example that begin with a call", calls, readme.lines().filter(l -> l.startsWith("b.")).count());
        due("the example has calls", calls > 0 ? 1 : 0, 1);
    }

    private static long answer(BarberJars x, String name, String told) throws Exception {
        Object[] numbers = told.isBlank() ? new Object[0]
                : Arrays.stream(told.split(",")).map(n -> (Object) Integer.valueOf(n.trim())).toArray();
        Class<?>[] types = new Class<?>[numbers.length];
        Arrays.fill(types, int.class);
        Method m = BarberJars.class.getMethod(name, types);
        return ((Number) m.invoke(x, numbers)).longValue();
    }

    private static void table(String readme) {
        Set<String> face = new TreeSet<>();
        for (Method m : BarberJars.class.getMethods()) {
            if (m.getDeclaringClass() == BarberJars.class) {
                face.add(m.getName());
            }
        }
        Set<String> named = new TreeSet<>();
        readme.lines().filter(l -> l.startsWith("| `")).forEach(l -> {
            Matcher name = NAME.matcher(l);
            while (name.find()) {
                due("the table names " + name.group(1) + " once", named.add(name.group(1)) ? 1 : 0, 1);
            }
        });
        due("the table names the calls " + face + ", has " + named, named.equals(face) ? 1 : 0, 1);
    }
}
