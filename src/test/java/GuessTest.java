/** Promises 34 to 42: chances, which party it was, laws of brakes. */
public final class GuessTest {
    private static final Due due = new Due("GuessTest");

    public static void main(String[] args) {
        odds();
        oddsRefused();
        heard();
        heardRefused();
        fits();
        asks();
        saw();
        laws();
        looks();
        due.finish();
    }

    private static void odds(CliffCars cars, int p, int v, long upper, long lower) {
        due.is("odds(" + p + ", " + v + ")", cars.odds(p, v), 0);
        due.row("odds(" + p + ", " + v + ")", cars, upper, lower);
    }

    private static void odds() {
        odds(new CliffCars(), 5, 1, 0, 1);
        odds(new CliffCars(), 5, 2, 1, 1);
        CliffCars above = Due.with("1");
        odds(above, 3, 0, 0, 1);
        odds(above, 3, 1, 3, 10);
        odds(above, 3, 2, 1, 1);
        odds(above, 5, 1, 1, 2);
        odds(above, 10, 1, 1, 1);
        odds(above, 0, 1, 0, 1);
        CliffCars below = Due.with("/9");
        odds(below, 2, 1, 0, 1);
        odds(below, 2, 2, 4, 5);
        odds(below, 2, 10, 4, 5);
        odds(below, 2, 11, 1, 1);
        odds(below, 2, 99, 1, 1);
        CliffCars cars = Due.with("531/427");
        odds(cars, 5, 0, 7, 16);
        odds(cars, 10, 0, 1, 1);
        odds(cars, 0, 1, 0, 1);
        odds(cars, 0, 2, 1, 1);
        CliffCars six = Due.with("1119/1119");
        six.seats(3);
        odds(six, 5, 0, 7, 64);
        odds(six, 1, 0, (3 * 9 * 729 + 729 + 3 * 81) / 5, 1000000 / 5);
        odds(six, 10, 1, 0, 1);
        odds(six, 10, 2, 1, 1);
        CliffCars one = Due.with("19");
        one.seats(1);
        odds(one, 5, 0, 0, 1);
        one.grips(0);
        one.drains(20);
        odds(one, 5, 0, 1, 1);
    }

    private static void oddsRefused() {
        CliffCars cars = Due.with("531/427");
        cars.needs();
        due.is("odds(-1, 0)", cars.odds(-1, 0), -1);
        due.is("odds(11, 0)", cars.odds(11, 0), -1);
        due.is("odds(5, -1)", cars.odds(5, -1), -1);
        due.is("odds(5, 100)", cars.odds(5, 100), -1);
        due.row("the ROW stays", cars, 8, 6);
    }

    private static void heard() {
        CliffCars cars = Due.with("531/427");
        cars.needs();
        for (int i = 1; i <= 12; i++) {
            due.is("heard", cars.heard(1, 1), i);
        }
        due.is("12 at most", cars.heard(1, 1), -1);
        due.is("what was heard", cars.count(10), 12);
        due.is("forget()", cars.forget(), 12);
        due.is("forget()", cars.forget(), 0);
        due.is("what was heard", cars.count(10), 0);
        due.is("heard again", cars.heard(0, 0), 1);
        due.row("the ROW stays", cars, 8, 6);
        due.is("it can't be undone", cars.undo(), -1);
    }

    private static void heardRefused() {
        CliffCars cars = new CliffCars();
        int[][] bad = {{0, -1}, {0, 2}, {1, 0}, {1, 10}, {2, -1}, {2, 5}, {3, -1}, {3, 2}, {4, 0}, {-1, 0}};
        for (int[] b : bad) {
            due.is("heard(" + b[0] + ", " + b[1] + ")", cars.heard(b[0], b[1]), -1);
        }
        due.is("none was heard", cars.count(10), 0);
        int[][] good = {{0, 0}, {0, 1}, {1, 1}, {1, 9}, {2, 0}, {2, 4}, {3, 0}, {3, 1}};
        for (int i = 0; i < good.length; i++) {
            due.is("heard", cars.heard(good[i][0], good[i][1]), i + 1);
        }
    }

    private static void fit(CliffCars cars, int set) {
        due.is("fits()", cars.fits(), set);
        due.row("fits()", cars, Integer.bitCount(set));
    }

    private static void fits() {
        fit(new CliffCars(), 0);
        CliffCars cars = Due.with("531/427");
        fit(cars, 7 + (7 << 5));
        cars.heard(0, 0);
        fit(cars, 7);
        cars.heard(1, 3);
        fit(cars, 3);
        cars.heard(2, 1);
        fit(cars, 2);
        cars.heard(3, 1);
        fit(cars, 2);
        cars.seats(1);
        fit(cars, 0);
        cars.seats(3);
        fit(cars, 2);
        cars.leaves(0, 1);
        fit(cars, 0);
        cars.forget();
        fit(cars, 3 + (7 << 5));
        cars.seats(2);
        cars.heard(3, 0);
        fit(cars, 4 << 5);
        cars.heard(0, 0);
        fit(cars, 0);
        cars.forget();
        cars.heard(1, 5);
        fit(cars, 1 + (4 << 5));
        cars.heard(1, 6);
        fit(cars, 4 << 5);
        cars.heard(1, 7);
        fit(cars, 4 << 5);
        cars.heard(1, 8);
        fit(cars, 0);
    }

    private static void asked(CliffCars cars, int question, int left) {
        due.is("asks()", cars.asks(), question);
        due.row("asks()", cars, left);
    }

    private static void asks() {
        due.is("none fits", new CliffCars().asks(), -2);
        asked(Due.with("5"), 0, 1);
        asked(Due.with("531/427"), 0, 3);
        asked(Due.with("/12345"), 13, 3);
        CliffCars ones = Due.with("11111");
        asked(ones, 30, 3);
        ones.heard(3, 0);
        fit(ones, 28);
        asked(ones, 22, 2);
        ones.heard(2, 4);
        asked(ones, 0, 1);
        ones.heard(2, 3);
        ones.needs();
        due.is("none fits", ones.asks(), -2);
        due.row("the ROW stays", ones, 2, 0);

        CliffCars weights = Due.with("89/12");
        asked(weights, 0, 2);
        weights.heard(0, 0);
        asked(weights, 19, 1);
        CliffCars places = Due.with("88");
        asked(places, 20, 1);
        CliffCars full = Due.with("88");
        for (int i = 0; i < 12; i++) {
            full.heard(0, 0);
        }
        asked(full, 20, 1);
    }

    private static void saw() {
        CliffCars cars = new CliffCars();
        int[][] bad = {{-1, 0, 0}, {31, 0, 0}, {0, -1, 0}, {0, 31, 0}, {0, 0, -1}, {0, 0, 2}};
        for (int[] b : bad) {
            due.is("saw", cars.saw(b[0], b[1], b[2]), -1);
        }
        for (int i = 1; i <= 10; i++) {
            due.is("saw", cars.saw(30, 30, 0), i);
        }
        due.is("10 at most", cars.saw(0, 0, 0), -1);
        due.is("what was seen", cars.count(11), 10);
        due.is("denies()", cars.denies(), 10);
        due.is("denies()", cars.denies(), 0);
        due.is("what was seen", cars.count(11), 0);
        due.is("saw again", cars.saw(0, 30, 1), 1);
        due.is("it can't be undone", cars.undo(), -1);
    }

    private static void fitting(int x, int y, int is, int laws, int a, int b) {
        CliffCars cars = new CliffCars();
        cars.saw(x, y, is);
        due.is("laws() by " + x + ", " + y + ", " + is, cars.laws(), laws);
        due.row("laws()", cars, a, b);
    }

    private static void laws() {
        CliffCars cars = new CliffCars();
        due.is("laws()", cars.laws(), 40);
        due.row("laws()", cars, 0, 5);
        fitting(0, 0, 1, 8, 0, 5);
        fitting(0, 0, 0, 32, 1, 5);
        fitting(3, 0, 1, 32, 0, 5);
        fitting(3, 0, 0, 8, 4, 5);
        fitting(4, 0, 1, 40, 0, 5);
        fitting(9, 4, 1, 40, 0, 5);
        fitting(9, 3, 1, 35, 0, 6);
        fitting(9, 3, 0, 5, 0, 5);
        fitting(12, 0, 1, 5, 0, 12);
        fitting(12, 0, 0, 35, 0, 5);
        fitting(13, 0, 0, 40, 0, 5);
        fitting(0, 5, 0, 40, 0, 5);
        cars.saw(0, 5, 1);
        due.is("less above", cars.laws(), 0);
        due.row("nothing without", cars);
        cars.denies();
        cars.saw(13, 0, 1);
        due.is("too much above", cars.laws(), 0);
        cars.denies();
        cars.saw(2, 0, 0);
        cars.saw(3, 0, 1);
        cars.saw(7, 0, 1);
        cars.saw(8, 0, 0);
        due.is("one is left", cars.laws(), 1);
        due.row("one is left", cars, 3, 7);
        cars.saw(5, 0, 0);
        due.is("none is left", cars.laws(), 0);
    }

    private static void look(CliffCars cars, int more, int left) {
        due.is("looks()", cars.looks(), more);
        due.row("looks()", cars, left);
    }

    private static void looks() {
        CliffCars cars = new CliffCars();
        look(cars, 9, 20);
        cars.saw(9, 0, 1);
        look(cars, 11, 10);
        cars.saw(1, 0, 0);
        look(cars, 11, 6);
        cars.denies();
        cars.saw(9, 0, 1);
        cars.saw(1, 0, 1);
        look(cars, 0, 4);
        cars.saw(0, 0, 1);
        look(cars, 11, 2);
        cars.saw(11, 0, 0);
        look(cars, 10, 1);
        cars.saw(10, 0, 1);
        look(cars, 0, 1);
        cars.saw(0, 0, 0);
        due.is("none fits", cars.looks(), -2);
        due.row("the ROW stays", cars, 1);
    }
}
