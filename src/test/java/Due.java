import java.lang.reflect.InvocationTargetException;
import java.lang.reflect.Method;
import java.util.Arrays;
import java.util.Comparator;
import java.util.NoSuchElementException;

/** Compares answers with what is due, counts, and ends a test's run. */
final class Due {
    private final String test;
    private String sentence = "";
    private int asked;
    private int wrong;

    Due(String test) {
        this.test = test;
    }

    /** What a test of its own is about: a promise's number, and the words that name the edge. */
    void about(int promise, String words) {
        if (!sentence.isEmpty()) {
            fail("is about a second sentence, too: " + words);
        }
        sentence = "promise " + promise + " (" + words + "): ";
    }

    /** Runs a class whose tests are its methods without parameters, each about one sentence. */
    void runEach(Class<?> tests) {
        Method[] methods = tests.getDeclaredMethods();
        Arrays.sort(methods, Comparator.comparing(Method::getName));
        for (Method method : methods) {
            if (method.getParameterCount() == 0 && method.getReturnType() == void.class) {
                runOne(method);
            }
        }
        finish();
    }

    private void runOne(Method method) {
        int askedBefore = asked;
        sentence = "";
        try {
            method.setAccessible(true);
            method.invoke(null);
        } catch (InvocationTargetException e) {
            fail(method.getName() + " threw " + e.getCause());
        } catch (IllegalAccessException e) {
            fail(method.getName() + " can't be run");
        }
        if (sentence.isEmpty() || asked == askedBefore) {
            fail(method.getName() + " is about no sentence, or asks nothing");
        }
    }

    private void fail(String what) {
        wrong++;
        System.out.println(test + ": " + sentence + what);
    }

    void is(String call, long got, long want) {
        asked++;
        if (got != want) {
            fail(call + " answered " + got + ", due is " + want);
        }
    }

    void is(String call, boolean got, boolean want) {
        is(call, got ? 1 : 0, want ? 1 : 0);
    }

    /** The whole ROW: its numbers, and that there is none behind them or ahead of them. */
    void row(String call, CliffCars cars, long... want) {
        is(call + ": numbers of the ROW", cars.count(13), want.length);
        for (int i = 0; i < want.length; i++) {
            asked++;
            try {
                is(call + ": row(" + i + ")", cars.row(i), want[i]);
            } catch (NoSuchElementException e) {
                fail(call + ": row(" + i + ") threw, due is " + want[i]);
            }
        }
        noRow(call, cars, want.length);
        noRow(call, cars, -1);
    }

    void noRow(String call, CliffCars cars, int i) {
        asked++;
        try {
            fail(call + ": row(" + i + ") answered " + cars.row(i) + ", due is a throw");
        } catch (NoSuchElementException e) {
            return;
        }
    }

    void noParty(CliffCars cars, int side, int k) {
        asked++;
        try {
            fail("party(" + side + ", " + k + ") answered " + cars.party(side, k) + ", due is a throw");
        } catch (NoSuchElementException e) {
            return;
        }
    }

    /** Who waits, as a text: ABOVE, a slash, BELOW. */
    void waits(String call, CliffCars cars, String want) {
        String got = waitsOf(cars);
        asked++;
        if (!got.equals(want)) {
            fail(call + ": " + got + " wait, due are " + want);
        }
    }

    private static String waitsOf(CliffCars cars) {
        StringBuilder got = new StringBuilder();
        for (int k = 0; k < cars.count(0); k++) {
            got.append(cars.party(0, k));
        }
        got.append('/');
        for (int k = 0; k < cars.count(1); k++) {
            got.append(cars.party(1, k));
        }
        return got.toString();
    }

    /** All that can be seen of an object without a change of it, but THE TEXT. */
    static String shape(CliffCars cars) {
        StringBuilder seen = new StringBuilder(waitsOf(cars));
        for (int what = 2; what <= 12; what++) {
            seen.append(' ').append(cars.count(what));
        }
        return seen.append(rowOf(cars)).toString();
    }

    private static String rowOf(CliffCars cars) {
        StringBuilder seen = new StringBuilder(" ROW");
        for (int i = 0; i < cars.count(13); i++) {
            seen.append(' ').append(cars.row(i));
        }
        return seen.toString();
    }

    void same(String call, CliffCars cars, String was) {
        String got = shape(cars);
        asked++;
        if (!got.equals(was)) {
            fail(call + ": is " + got + ", was " + was);
        }
    }

    void finish() {
        System.out.println(test + ": " + (asked - wrong) + " answers as due, " + wrong + " not");
        if (wrong > 0 || asked == 0) {
            System.exit(1);
        }
    }

    static CliffCars write(CliffCars cars, String text) {
        int ahead = cars.count(14);
        for (int p = 0; p < text.length(); p += 4) {
            int v = 0;
            for (int i = p; i < p + 4; i++) {
                v = v << 8 | (i < text.length() ? text.charAt(i) & 255 : 0);
            }
            cars.sign(v);
        }
        cars.end(ahead + text.length());
        return cars;
    }

    /** A new object where they wait. */
    static CliffCars with(String parties) {
        CliffCars cars = new CliffCars();
        write(cars, parties).parties();
        return cars;
    }

    static CliffCars with(String parties, String rule) {
        CliffCars cars = with(parties);
        write(cars, rule).rule();
        return cars;
    }
}
