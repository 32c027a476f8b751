import java.lang.reflect.InvocationTargetException;
import java.lang.reflect.Method;
import java.util.ArrayList;
import java.util.List;
import java.util.NoSuchElementException;
import java.util.Random;

/** Runs of calls drawn by seeds, on CliffCars and on NaiveCars: all answers, ROWS and counts are alike. */
public final class AgainstNaiveTest {
    private static final int RUNS = 1500;
    private static final int CALLS = 150;
    private static final int[] ODD = {
        Integer.MIN_VALUE, Integer.MAX_VALUE, -1, -2, 0, 1, 5, 6, 10, 20, 21, 30, 31, 60, 61, 99, 100, 200, 201, 999, 1000
    };

    private static final Method[] METHODS = faceInOrder();
    private static int wrong = 0;
    private static long asked = 0;

    /** The order in which the machine lists methods is free, that of the runs is not to be. */
    private static Method[] faceInOrder() {
        List<Method> face = new ArrayList<>();
        for (Method m : CliffCars.class.getDeclaredMethods()) {
            if (java.lang.reflect.Modifier.isPublic(m.getModifiers())) {
                face.add(m);
            }
        }
        face.sort((a, b) -> a.getName().compareTo(b.getName()));
        return face.toArray(new Method[0]);
    }

    private final Random random;
    private final CliffCars cars = new CliffCars();
    private final NaiveCars naive = new NaiveCars();
    private final StringBuilder story = new StringBuilder();

    private AgainstNaiveTest(long seed) {
        random = new Random(seed);
    }

    public static void main(String[] args) throws Exception {
        for (int run = 0; run < RUNS && wrong < 5; run++) {
            new AgainstNaiveTest(run).run();
        }
        System.out.println("AgainstNaiveTest: " + asked + " answers compared, " + wrong + " runs not alike");
        if (wrong > 0) {
            System.exit(1);
        }
    }

    private void run() throws Exception {
        for (int i = 0; i < CALLS; i++) {
            boolean alike = random.nextInt(4) == 0 ? text() : plain();
            if (!alike || !sameAfter()) {
                wrong++;
                System.out.println(story);
                return;
            }
        }
    }

    private boolean plain() throws Exception {
        Method m = METHODS[random.nextInt(METHODS.length)];
        Object[] args = new Object[m.getParameterCount()];
        for (int i = 0; i < args.length; i++) {
            args[i] = number(m.getName(), i);
        }
        return both(m.getName(), args);
    }

    private int number(String name, int i) {
        switch (random.nextInt(12)) {
            case 0:
                return ODD[random.nextInt(ODD.length)];
            case 1:
                return random.nextInt(120) - 5;
            default:
                return likely(name, i);
        }
    }

    private int likely(String name, int i) {
        switch (name) {
            case "sign":
                return random.nextInt();
            case "end":
                return random.nextInt(82);
            case "sheet":
                return i < 2 ? random.nextInt(6) : random.nextInt(600) - 300;
            case "sends":
                return random.nextInt(random.nextBoolean() ? 32 : 8);
            case "saw":
                return i == 2 ? random.nextInt(2) : random.nextInt(16);
            case "most":
            case "drains":
                return random.nextInt(30);
            case "dry":
                return random.nextInt(60);
            case "runs":
                return random.nextInt(8);
            case "holds":
            case "later":
                return random.nextInt(20);
            case "odds":
                return random.nextInt(i == 0 ? 11 : 20);
            case "pails":
                return random.nextInt(201);
            case "years":
                return i == 0 ? random.nextInt() : 1 + random.nextInt(60);
            case "leaves":
            case "swaps":
            case "when":
            case "party":
                return random.nextInt(i == 0 ? 2 : 5);
            default:
                return random.nextInt(6);
        }
    }

    private static final String[] TEXTS = {"parties", "rule", "law", "day"};

    private boolean text() throws Exception {
        String call = TEXTS[random.nextInt(TEXTS.length)];
        String text = call.equals("parties") ? parties() : call.equals("day") ? acts() : formula(0);
        if (random.nextInt(4) == 0 && !text.isEmpty()) {
            text = spoil(text);
        }
        if (random.nextInt(25) == 0) {
            text = (text + formula(0) + text + formula(1) + text + formula(2)).repeat(2);
        }
        text = text.substring(0, Math.min(80, text.length()));
        if (!both("end", 0)) {
            return false;
        }
        for (int p = 0; p < text.length(); p += 4) {
            int v = 0;
            for (int i = p; i < p + 4; i++) {
                v = v << 8 | (i < text.length() ? text.charAt(i) : 0);
            }
            if (!both("sign", v)) {
                return false;
            }
        }
        return both("end", text.length()) && both(call);
    }

    private String parties() {
        StringBuilder b = new StringBuilder();
        for (int i = random.nextInt(5); i > 0; i--) {
            b.append((char) ('1' + random.nextInt(9)));
        }
        if (random.nextInt(3) > 0) {
            b.append('/');
            for (int i = random.nextInt(5); i > 0; i--) {
                b.append((char) ('1' + random.nextInt(9)));
            }
        }
        return b.toString();
    }

    private String acts() {
        StringBuilder b = new StringBuilder();
        int most = random.nextInt(10) == 0 ? 40 : 6;
        for (int i = random.nextInt(most); i > 0; i--) {
            char act = "**ngslxo".charAt(random.nextInt(8));
            b.append(act);
            if (act == 's') {
                b.append(1 + random.nextInt(3));
            } else if (act == 'n' || act == 'g') {
                b.append(random.nextInt(10));
            } else if (act != '*') {
                b.append(random.nextInt(act == 'o' ? 3 : 2)).append(random.nextInt(4));
            }
        }
        return b.toString();
    }

    private String formula(int deep) {
        if (deep == 0 && random.nextInt(20) == 0) {
            return "";
        }
        switch (random.nextInt(deep > 4 ? 4 : 10)) {
            case 0:
            case 1:
                return "" + "ncudwgt".charAt(random.nextInt(7));
            case 2:
                return "" + random.nextInt(12);
            case 3:
                return "" + random.nextInt(1000);
            case 4:
                return "-" + formula(deep + 1);
            case 5:
                return "(" + formula(deep + 1) + ")";
            default:
                return formula(deep + 1) + "<>=++--**//".charAt(random.nextInt(11)) + formula(deep + 1);
        }
    }

    private String spoil(String text) {
        StringBuilder b = new StringBuilder(text);
        String signs = "0123456789/*+-<>=()ncudwgtslxo \u00e9";
        char sign = signs.charAt(random.nextInt(signs.length()));
        int p = random.nextInt(text.length());
        switch (random.nextInt(3)) {
            case 0:
                return b.insert(p, sign).toString();
            case 1:
                b.setCharAt(p, sign);
                return b.toString();
            default:
                return b.deleteCharAt(p).toString();
        }
    }

    private boolean sameAfter() throws Exception {
        for (int what = 0; what <= 14; what++) {
            if (!same(cars.count(what), naive.count(what), "count(" + what + ")")) {
                return false;
            }
        }
        for (int i = 0; i < cars.count(13); i++) {
            if (!same(cars.row(i), naive.row(i), "row(" + i + ")")) {
                return false;
            }
        }
        for (int side = 0; side < 2; side++) {
            for (int k = 0; k < cars.count(side); k++) {
                if (!same(cars.party(side, k), naive.party(side, k), "party")) {
                    return false;
                }
            }
        }
        return true;
    }

    private boolean same(long got, long want, String what) {
        asked++;
        if (got != want) {
            story.append(what).append(": ").append(got).append(", due is ").append(want).append('\n');
        }
        return got == want;
    }

    private boolean both(String name, Object... args) throws Exception {
        Class<?>[] types = new Class<?>[args.length];
        java.util.Arrays.fill(types, int.class);
        String got = answer(CliffCars.class.getMethod(name, types), cars, args);
        String want = answer(NaiveCars.class.getMethod(name, types), naive, args);
        asked++;
        story.append(name).append(java.util.Arrays.toString(args)).append(' ').append(got);
        story.append(got.equals(want) ? "" : ", due is " + want).append('\n');
        return got.equals(want);
    }

    private static String answer(Method m, Object on, Object[] args) throws Exception {
        try {
            return String.valueOf(m.invoke(on, args));
        } catch (InvocationTargetException e) {
            if (e.getCause().getClass() == NoSuchElementException.class) {
                return "throws.NoSuchElementException";
            }
            return "throws " + e.getCause();
        }
    }
}
