import java.lang.reflect.InvocationTargetException;
import java.nio.file.Files;
import java.nio.file.Path;
import java.util.Arrays;
import java.util.NoSuchElementException;
import java.util.Set;
import java.util.TreeSet;
import java.util.regex.Matcher;
import java.util.regex.Pattern;

/** Runs the examples of README.md: each call is to answer what stands behind it there. */
public final class ReadmeTest {
    private static final Due due = new Due("ReadmeTest");

    private static final String START = "CliffCars cars = new CliffCars();";
    private static final Pattern BLOCK = Pattern.compile("(?s)```java\n(.*?)```");
    private static final Pattern TEXT = Pattern.compile("write\\(cars, \"([^\"]*)\"\\);");
    private static final Pattern CALL = Pattern.compile("cars\\.(\\w+)\\(([^)]*)\\); +// (-?\\d+|true|false|\\w+Exception)(:.*)?");

    private final CliffCars cars = new CliffCars();
    private static final Set<String> called = new TreeSet<>();

    public static void main(String[] args) throws Exception {
        Matcher block = BLOCK.matcher(Files.readString(Path.of("README.md")));
        while (block.find()) {
            String[] lines = block.group(1).split("\n");
            if (lines[0].equals(START)) {
                new ReadmeTest().run(Arrays.copyOfRange(lines, 1, lines.length));
            }
        }
        everyCallHasAnExample();
        due.finish();
    }

    private static void everyCallHasAnExample() {
        Set<String> face = new TreeSet<>();
        for (java.lang.reflect.Method method : CliffCars.class.getDeclaredMethods()) {
            if (java.lang.reflect.Modifier.isPublic(method.getModifiers())) {
                face.add(method.getName());
            }
        }
        face.removeAll(called);
        due.is("calls without an example " + face, face.size(), 0);
    }

    private void run(String[] lines) throws Exception {
        for (String line : lines) {
            Matcher text = TEXT.matcher(line);
            Matcher call = CALL.matcher(line);
            if (text.matches()) {
                Due.write(cars, text.group(1));
            } else if (call.matches()) {
                String got = answer(call.group(1), call.group(2));
                due.is(line + " answered " + got, got.equals(call.group(3)), true);
            } else if (!line.isEmpty()) {
                due.is("a line that can't be run: " + line, false, true);
            }
        }
    }

    private String answer(String name, String list) throws Exception {
        called.add(name);
        String[] parts = list.isEmpty() ? new String[0] : list.split(", ");
        Object[] args = Arrays.stream(parts).map(Integer::decode).toArray();
        Class<?>[] types = new Class<?>[args.length];
        Arrays.fill(types, int.class);
        try {
            return String.valueOf(CliffCars.class.getMethod(name, types).invoke(cars, args));
        } catch (InvocationTargetException e) {
            return e.getCause() instanceof NoSuchElementException ? "NoSuchElementException" : "" + e.getCause();
        }
    }
}
