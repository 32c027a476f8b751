import java.io.IOException;
import java.lang.reflect.Constructor;
import java.lang.reflect.Field;
import java.lang.reflect.Method;
import java.lang.reflect.Modifier;
import java.nio.file.Files;
import java.nio.file.Path;
import java.util.Arrays;
import java.util.HashSet;
import java.util.List;
import java.util.Set;
import java.util.TreeSet;
import java.util.regex.Matcher;
import java.util.regex.Pattern;

/** The public face of the document, no more and no less, and what can be seen of LANGUAGE.md's rules. */
public final class FaceTest {
    private static final Due due = new Due("FaceTest");

    private static final String[] FACE = {
        "sign/1/int", "end/1/boolean", "parties/0/int", "rule/0/int", "party/2/int", "sheet/4/int", "trip/0/int",
        "sends/2/int", "runs/1/int", "grips/1/int", "seats/1/int", "leaves/2/int", "swaps/2/int", "drains/1/int",
        "day/0/int", "undo/0/int", "needs/0/int", "later/1/int", "done/0/int", "dry/1/int", "when/2/int",
        "enough/0/int", "waiting/0/int", "holds/1/int", "soonest/0/int", "most/1/int", "least/1/int",
        "freely/0/int", "best/0/int", "alike/0/int", "parts/1/int", "spare/0/int", "odds/2/int", "heard/2/int",
        "forget/0/int", "fits/0/int", "asks/0/int", "saw/3/int", "denies/0/int", "laws/0/int", "looks/0/int",
        "pails/1/int", "rests/1/int", "law/0/int", "years/2/int", "keep/1/boolean", "again/1/boolean",
        "count/1/int", "row/1/long"
    };

    public static void main(String[] args) throws IOException {
        Class<CliffCars> cars = CliffCars.class;
        due.is("public and final", cars.getModifiers() & (Modifier.PUBLIC | Modifier.FINAL),
                Modifier.PUBLIC | Modifier.FINAL);
        methods(cars);
        fields(cars);
        constructors(cars);
        inside(cars);
        source();
        due.finish();
    }

    private static void none(String what, Set<String> found) {
        due.is(what + " " + found, found.size(), 0);
    }

    private static void methods(Class<?> cars) {
        Set<String> missing = new TreeSet<>(Arrays.asList(FACE));
        Set<String> tooMany = new TreeSet<>();
        Set<String> names = new HashSet<>();
        for (String face : FACE) {
            names.add(face.substring(0, face.indexOf('/')));
        }
        for (Method m : cars.getDeclaredMethods()) {
            String shape = m.getName() + "/" + m.getParameterCount() + "/" + m.getReturnType().getName();
            boolean ints = Arrays.stream(m.getParameterTypes()).allMatch(t -> t == int.class);
            boolean inFace = Modifier.isPublic(m.getModifiers()) && ints && missing.remove(shape);
            if (!inFace && (!Modifier.isPrivate(m.getModifiers()) || names.contains(m.getName()))) {
                tooMany.add(shape);
            }
        }
        none("missing methods", missing);
        none("methods outside the face", tooMany);
    }

    private static void fields(Class<?> cars) {
        Set<String> open = new TreeSet<>();
        for (Field f : cars.getDeclaredFields()) {
            if (!Modifier.isPrivate(f.getModifiers()) && !f.getName().equals("NONE")) {
                open.add(f.getName());
            }
        }
        none("fields outside the face", open);
    }

    private static void constructors(Class<?> cars) {
        Constructor<?>[] made = cars.getDeclaredConstructors();
        due.is("constructors", made.length, 1);
        due.is("of no parameter", made[0].getParameterCount(), 0);
        due.is("public", Modifier.isPublic(made[0].getModifiers()), true);
    }

    private static void inside(Class<?> cars) {
        Set<String> bad = new TreeSet<>();
        Set<String> shadowing = new TreeSet<>();
        List<String> face = Arrays.asList(FACE);
        for (Class<?> c : cars.getDeclaredClasses()) {
            if (!Modifier.isStatic(c.getModifiers()) || Modifier.isPublic(c.getModifiers())) {
                bad.add(c.getName());
            }
            for (Method m : c.getDeclaredMethods()) {
                if (face.stream().anyMatch(f -> f.startsWith(m.getName() + "/"))) {
                    shadowing.add(c.getName() + "." + m.getName());
                }
            }
            for (Field f : c.getDeclaredFields()) {
                if (Modifier.isStatic(f.getModifiers()) && !Modifier.isFinal(f.getModifiers())) {
                    bad.add(c.getName() + "." + f.getName());
                }
            }
        }
        none("classes and fields that are not static, not final", bad);
        none("methods with a name of the face", shadowing);
        due.is("at most twelve classes", cars.getDeclaredClasses().length + 1 <= 12, true);
    }

    /** Words that no line of the program may have, whatever it does with them. */
    private static void source() throws IOException {
        String code = Files.readString(Path.of("src/main/java/CliffCars.java"));
        Pattern banned = Pattern.compile("\\b(catch|finally|synchronized|assert|instanceof|package|native|volatile"
                + "|transient|Exact|System\\.(?!arraycopy)\\w+|Thread|Random|hashCode|toString|getClass|double|float)\\b"
                + "|->|::|@");
        Matcher found = banned.matcher(code);
        Set<String> words = new TreeSet<>();
        while (found.find()) {
            words.add(found.group());
        }
        none("words outside the language", words);
        Matcher imports = Pattern.compile("(?m)^import (.*);$").matcher(code);
        while (imports.find()) {
            due.is("import " + imports.group(1), imports.group(1).equals("java.util.NoSuchElementException"), true);
        }
        Matcher thrown = Pattern.compile("throw new (\\w+)\\(").matcher(code);
        while (thrown.find()) {
            due.is("throw " + thrown.group(1), thrown.group(1).equals("NoSuchElementException"), true);
        }
    }
}
