import java.lang.reflect.Method;
import java.lang.reflect.Modifier;
import java.nio.file.Files;
import java.nio.file.Path;
import java.util.List;
import java.util.Set;
import java.util.TreeSet;
import java.util.regex.Matcher;
import java.util.regex.Pattern;

/** The examples of README.md answer what their comments say, and leave no part of the class out. */
public final class ReadmeTest {
    private static final Due due = new Due();
    private static final Pattern EXAMPLE = Pattern.compile("delta\\.(\\w+)\\(([^()]*)\\);\\s+// (-?\\d+)(:.*)?");

    public static void main(String[] args) throws Exception {
        List<String> lines = Files.readAllLines(Path.of("README.md"));
        examples(lines);
        names(String.join("\n", lines));
        due.end("ReadmeTest");
    }

    private static void examples(List<String> lines) throws Exception {
        DeltaRoad delta = null;
        boolean inside = false;
        int seen = 0;
        for (String line : lines) {
            if (line.startsWith("```")) {
                inside = line.equals("```java");
            } else if (inside && line.equals("DeltaRoad delta = new DeltaRoad();")) {
                delta = new DeltaRoad();
            } else if (inside) {
                Matcher m = EXAMPLE.matcher(line);
                boolean told = delta != null && m.matches();
                due.is("a call and its answer: " + line, told ? 1 : 0, 1);
                if (told) {
                    due.is(line, answer(delta, m.group(1), m.group(2)), Long.parseLong(m.group(3)));
                    seen++;
                }
            }
        }
        due.is("examples seen, " + seen + ", some", seen >= 36 ? 1 : 0, 1);
    }

    private static long answer(DeltaRoad delta, String name, String given) throws Exception {
        String[] told = given.isEmpty() ? new String[0] : given.split(", ");
        for (Method m : DeltaRoad.class.getMethods()) {
            if (m.getName().equals(name) && m.getParameterCount() == told.length) {
                Object[] values = new Object[told.length];
                for (int i = 0; i < told.length; i++) {
                    long v = Long.decode(told[i].replace("L", ""));
                    values[i] = m.getParameterTypes()[i] == long.class ? (Object) v : (Object) Math.toIntExact(v);
                }
                return ((Number) m.invoke(delta, values)).longValue();
            }
        }
        throw new IllegalStateException("no such call: " + name);
    }

    private static void names(String readme) {
        Set<String> names = new TreeSet<>();
        for (Method m : DeltaRoad.class.getDeclaredMethods()) {
            if (Modifier.isPublic(m.getModifiers())) {
                names.add(m.getName());
            }
        }
        for (String name : names) {
            boolean named = readme.contains("`" + name + "`") || readme.contains("delta." + name + "(");
            due.is("README.md names " + name, named ? 1 : 0, 1);
        }
        for (String file : Path.of("src/test/java").toFile().list()) {
            String name = file.replace(".java", "");
            if (name.endsWith("Test")) {
                due.is("README.md names " + name, readme.contains("`" + name + "`") ? 1 : 0, 1);
            }
        }
    }
}
