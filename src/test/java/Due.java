import java.util.NoSuchElementException;

/** Compares answers with what is due, counts, and ends a test's run. */
final class Due {
    private final String test;
    private int asked;
    private int wrong;

    Due(String test) {
        this.test = test;
    }

    void is(String call, long got, long want) {
        asked++;
        if (got != want) {
            wrong++;
            System.out.println(test + ": " + call + " answered " + got + ", due is " + want);
        }
    }

    void is(String call, boolean got, boolean want) {
        is(call, got ? 1 : 0, want ? 1 : 0);
    }

    /** The whole ROW: its numbers, and that there is none behind them or ahead of them. */
    void row(String call, CliffCars cars, long... want) {
        is(call + ": numbers of the ROW", cars.count(13), want.length);
        for (int i = 0; i < want.length; i++) {
            asked++;
            try {
                is(call + ": row(" + i + ")", cars.row(i), want[i]);
            } catch (NoSuchElementException e) {
                wrong++;
                System.out.println(test + ": " + call + ": row(" + i + ") threw, due is " + want[i]);
            }
        }
        noRow(call, cars, want.length);
        noRow(call, cars, -1);
    }

    private void noRow(String call, CliffCars cars, int i) {
        asked++;
        try {
            long got = cars.row(i);
            wrong++;
            System.out.println(test + ": " + call + ": row(" + i + ") answered " + got + ", due is a throw");
        } catch (NoSuchElementException e) {
            return;
        }
    }

    void noParty(CliffCars cars, int side, int k) {
        asked++;
        try {
            int got = cars.party(side, k);
            wrong++;
            System.out.println(test + ": party(" + side + ", " + k + ") answered " + got + ", due is a throw");
        } catch (NoSuchElementException e) {
            return;
        }
    }

    /** Who waits, as a text: ABOVE, a slash, BELOW. */
    void waits(String call, CliffCars cars, String want) {
        StringBuilder got = new StringBuilder();
        for (int k = 0; k < cars.count(0); k++) {
            got.append(cars.party(0, k));
        }
        got.append('/');
        for (int k = 0; k < cars.count(1); k++) {
            got.append(cars.party(1, k));
        }
        asked++;
        if (!got.toString().equals(want)) {
            wrong++;
            System.out.println(test + ": " + call + ": " + got + " wait, due are " + want);
        }
    }

    void finish() {
        System.out.println(test + ": " + (asked - wrong) + " answers as due, " + wrong + " not");
        if (wrong > 0 || asked == 0) {
            System.exit(1);
        }
    }

    static CliffCars write(CliffCars cars, String text) {
        int ahead = cars.count(14);
        for (int p = 0; p < text.length(); p += 4) {
            int v = 0;
            for (int i = p; i < p + 4; i++) {
                v = v << 8 | (i < text.length() ? text.charAt(i) & 255 : 0);
            }
            cars.sign(v);
        }
        cars.end(ahead + text.length());
        return cars;
    }

    /** A new object where they wait. */
    static CliffCars with(String parties) {
        CliffCars cars = new CliffCars();
        write(cars, parties).parties();
        return cars;
    }

    static CliffCars with(String parties, String rule) {
        CliffCars cars = with(parties);
        write(cars, rule).rule();
        return cars;
    }
}
