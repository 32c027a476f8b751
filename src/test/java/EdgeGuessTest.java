/** Promises 35 to 42: each sentence that names an edge has a test of its own. */
public final class EdgeGuessTest {
    private static final Due due = new Due("EdgeGuessTest");
    private static final int LEAST = Integer.MIN_VALUE;
    private static final int GREATEST = Integer.MAX_VALUE;

    public static void main(String[] args) {
        due.runEach(EdgeGuessTest.class);
    }

    /** What fits in an object where nothing else was heard. */
    private static void fitsOf(CliffCars cars, int what, int v, int set) {
        String call = "heard(" + what + ", " + v + ")";
        cars.forget();
        due.is(call, cars.heard(what, v), 1);
        due.is("fits() behind " + call, cars.fits(), set);
        due.row("fits() behind " + call, cars, Integer.bitCount(set));
    }

    // ---- promise 35

    private static void aboveOrBelow() {
        due.about(35, "what 0: it is ABOVE (0) or BELOW (1)");
        CliffCars cars = Due.with("531/42");
        fitsOf(cars, 0, 0, 7);
        fitsOf(cars, 0, 1, 3 << 5);
    }

    private static void weightOrMore() {
        due.about(35, "1: WEIGHT is v (1 .. 9) or more");
        CliffCars cars = Due.with("189/91");
        fitsOf(cars, 1, 1, 7 + (3 << 5));
        fitsOf(cars, 1, 2, 6 + (1 << 5));
        fitsOf(cars, 1, 8, 6 + (1 << 5));
        fitsOf(cars, 1, 9, 4 + (1 << 5));
    }

    private static void partyOfItsSide() {
        due.about(35, "2: it is party v (0 .. 4) of its side");
        CliffCars cars = Due.with("12345/1");
        fitsOf(cars, 2, 0, 1 + (1 << 5));
        fitsOf(cars, 2, 1, 2);
        fitsOf(cars, 2, 4, 16);
    }

    private static void ofTheNextTrip() {
        due.about(35, "3: it is of THE NEXT TRIP (1) or not (0)");
        CliffCars cars = Due.with("12345/1");
        fitsOf(cars, 3, 1, 3 + (1 << 5));
        fitsOf(cars, 3, 0, 28);
    }

    private static void howManyWereHeard() {
        due.about(35, "how many such");
        CliffCars cars = new CliffCars();
        due.is("heard(0, 0)", cars.heard(0, 0), 1);
        due.is("the same once more", cars.heard(0, 0), 2);
        due.is("what was heard", cars.count(10), 2);
    }

    private static void heardRefused() {
        due.about(35, "Refused: others");
        CliffCars cars = Scenes.busy();
        String was = Due.shape(cars);
        int[][] others = {
            {0, -1}, {0, 2}, {1, 0}, {1, 10}, {2, -1}, {2, 5}, {3, -1}, {3, 2}, {4, 0}, {4, 1}, {-1, 0}, {LEAST, 1},
            {GREATEST, 1}, {0, LEAST}, {1, GREATEST}, {1, LEAST}, {2, GREATEST}, {3, LEAST}
        };
        for (int[] other : others) {
            due.is("heard(" + other[0] + ", " + other[1] + ")", cars.heard(other[0], other[1]), -1);
        }
        due.same("heard() refused", cars, was);
    }

    private static void twelveWereHeard() {
        due.about(35, "Refused: others, 12.");
        CliffCars cars = Due.with("531/42");
        for (int i = 1; i <= 12; i++) {
            due.is("heard(0, 0)", cars.heard(0, 0), i);
        }
        due.is("a thirteenth", cars.heard(0, 1), -1);
        due.is("what was heard", cars.count(10), 12);
        due.is("the thirteenth was not heard", cars.fits(), 7);
        cars.forget();
        due.is("forgotten", cars.heard(0, 1), 1);
    }

    // ---- promise 36

    private static void forgetsNoneAndTwelve() {
        due.about(36, "It is forgotten: how many there were.");
        CliffCars cars = Due.with("531/42");
        due.is("none", cars.forget(), 0);
        for (int i = 0; i < 12; i++) {
            cars.heard(0, 0);
        }
        due.is("twelve", cars.forget(), 12);
        due.is("what was heard", cars.count(10), 0);
        due.is("all fit", cars.fits(), 7 + (3 << 5));
        due.is("none", cars.forget(), 0);
    }

    // ---- promise 37

    private static void bitsOfBothSides() {
        due.about(37, "(bits: party k ABOVE, 5 and k BELOW)");
        CliffCars full = Due.with("12345/12345");
        due.is("all", full.fits(), 1023);
        due.row("all", full, 10);
        due.is("the first BELOW", Due.with("/1").fits(), 32);
        due.is("the first ABOVE", Due.with("1").fits(), 1);
    }

    private static void noneFits() {
        due.about(37, "the ROW: how many");
        CliffCars nobody = new CliffCars();
        nobody.later(0);
        due.is("nobody waits", nobody.fits(), 0);
        due.row("nobody waits", nobody, 0);
        CliffCars cars = Due.with("531/42");
        cars.heard(0, 0);
        cars.heard(0, 1);
        due.is("both can't be", cars.fits(), 0);
        due.row("both can't be", cars, 0);
    }

    private static void asItIsNow() {
        due.about(37, "fit all that was heard now");
        CliffCars cars = Due.with("531/42");
        cars.heard(3, 1);
        due.is("2 SEATS", cars.fits(), 3 + (3 << 5));
        cars.seats(1);
        due.is("1 SEAT", cars.fits(), 1 + (1 << 5));
        cars.heard(1, 4);
        due.is("5 and 4", cars.fits(), 1 + (1 << 5));
        cars.leaves(0, 0);
        due.is("4", cars.fits(), 1 << 5);
    }

    // ---- promise 38

    private static void asked(CliffCars cars, int question, int left) {
        due.is("asks()", cars.asks(), question);
        due.row("asks()", cars, left);
    }

    private static void fewestAtMost() {
        due.about(38, "so that, it is so or not, the fewest such parties are left at most");
        asked(Due.with("/12345"), 13, 3);
        CliffCars twelve = Due.with("88");
        for (int i = 0; i < 12; i++) {
            twelve.heard(0, 0);
        }
        asked(twelve, 20, 1);
    }

    private static void leftIfItIsNotSo() {
        due.about(38, "the ROW: how many at most");
        asked(Due.with("111"), 20, 2);
        asked(Due.with("11/1"), 0, 2);
        asked(Due.with("1/11"), 0, 2);
    }

    private static void asTheyMayBeHeard() {
        due.about(38, "10 times what and v, as they may be heard, of equal ones the least: it");
        asked(Due.with("5"), 0, 1);
        asked(Due.with("531/427"), 0, 3);
        asked(Due.with("89"), 19, 1);
        asked(Due.with("11"), 20, 1);
        asked(Due.with("11111"), 30, 3);
        CliffCars second = Due.with("11111");
        second.heard(3, 0);
        asked(second, 22, 2);
    }

    private static void asksOfNone() {
        due.about(38, "-2: none fits.");
        CliffCars cars = Scenes.busy();
        cars.heard(0, 0);
        cars.heard(0, 1);
        String was = Due.shape(cars);
        due.is("asks()", cars.asks(), -2);
        due.same("asks() of none", cars, was);
        due.is("nobody waits", new CliffCars().asks(), -2);
    }

    // ---- promise 39

    private static void seenFrom0To30() {
        due.about(39, "by x above and y below (0 .. 30 each)");
        CliffCars cars = new CliffCars();
        due.is("saw(0, 0, 0)", cars.saw(0, 0, 0), 1);
        due.is("saw(30, 30, 0)", cars.saw(30, 30, 0), 2);
        due.is("saw(30, 0, 0)", cars.saw(30, 0, 0), 3);
        due.is("saw(0, 30, 0)", cars.saw(0, 30, 0), 4);
        due.is("laws()", cars.laws(), 32);
    }

    private static void sawRefused() {
        due.about(39, "Refused: others");
        CliffCars cars = Scenes.busy();
        String was = Due.shape(cars);
        int[][] others = {
            {-1, 0, 0}, {31, 0, 0}, {0, -1, 0}, {0, 31, 0}, {0, 0, -1}, {0, 0, 2}, {LEAST, 0, 1}, {GREATEST, 0, 1},
            {0, LEAST, 1}, {0, GREATEST, 1}, {0, 0, LEAST}, {0, 0, GREATEST}
        };
        for (int[] other : others) {
            due.is("saw(" + other[0] + ", " + other[1] + ", " + other[2] + ")",
                    cars.saw(other[0], other[1], other[2]), -1);
        }
        due.same("saw() refused", cars, was);
    }

    private static void tenWereSeen() {
        due.about(39, "Refused: others, 10.");
        CliffCars cars = new CliffCars();
        for (int i = 1; i <= 10; i++) {
            due.is("saw(0, 0, 1)", cars.saw(0, 0, 1), i);
        }
        due.is("an eleventh", cars.saw(0, 0, 0), -1);
        due.is("what was seen", cars.count(11), 10);
        due.is("the eleventh was not seen", cars.laws(), 8);
        cars.denies();
        due.is("denied", cars.saw(0, 0, 0), 1);
    }

    // ---- promise 40

    private static void deniesNoneAndTen() {
        due.about(40, "It is denied: how many there were.");
        CliffCars cars = new CliffCars();
        due.is("none", cars.denies(), 0);
        for (int i = 0; i < 10; i++) {
            cars.saw(0, 0, 1);
        }
        due.is("ten", cars.denies(), 10);
        due.is("what was seen", cars.count(11), 0);
        due.is("all laws fit", cars.laws(), 40);
        due.is("none", cars.denies(), 0);
    }

    // ---- promise 41

    private static void fitting(int more, int is, int laws, long... row) {
        CliffCars cars = new CliffCars();
        cars.saw(Math.max(0, more), Math.max(0, -more), is);
        due.is("laws() by " + more + ", " + is, cars.laws(), laws);
        due.row("laws() by " + more + ", " + is, cars, row);
    }

    private static void allLaws() {
        due.about(41, "Laws (40 of them) that fit all that was seen: how many");
        CliffCars cars = new CliffCars();
        due.is("laws()", cars.laws(), 40);
        due.row("laws()", cars, 0, 5);
        cars.saw(3, 0, 0);
        cars.saw(11, 0, 0);
        cars.saw(10, 0, 1);
        due.is("one is left", cars.laws(), 1);
        due.row("one is left", cars, 4, 10);
    }

    private static void aOrMore() {
        due.about(41, "if what is above weighs a or more above what is below");
        fitting(-1, 0, 40, 0, 5);
        fitting(0, 1, 8, 0, 5);
        fitting(0, 0, 32, 1, 5);
        fitting(3, 1, 32, 0, 5);
        fitting(3, 0, 8, 4, 5);
        fitting(4, 1, 40, 0, 5);
    }

    private static void noMoreThanB() {
        due.about(41, "but no more than b");
        fitting(5, 1, 40, 0, 5);
        fitting(6, 1, 35, 0, 6);
        fitting(6, 0, 5, 0, 5);
        fitting(12, 1, 5, 0, 12);
        fitting(12, 0, 35, 0, 5);
        fitting(13, 0, 40, 0, 5);
    }

    private static void noLawIsLeft() {
        due.about(41, "the least a, b (nothing without)");
        fitting(-1, 1, 0);
        fitting(13, 1, 0);
        fitting(4, 0, 0);
        fitting(5, 0, 0);
        fitting(30, 1, 0);
        fitting(-30, 1, 0);
        CliffCars cars = new CliffCars();
        cars.later(0);
        cars.saw(13, 0, 1);
        cars.laws();
        due.row("the ROW is empty", cars);
    }

    // ---- promise 42

    private static void look(CliffCars cars, int more, int left) {
        due.is("looks()", cars.looks(), more);
        due.row("looks()", cars, left);
    }

    private static void looksAtTheLeast() {
        due.about(42, "it (of equal ones the least)");
        look(new CliffCars(), 9, 20);
        CliffCars one = new CliffCars();
        one.saw(0, 0, 1);
        one.saw(6, 0, 0);
        look(one, 0, 1);
        CliffCars two = new CliffCars();
        two.saw(1, 0, 1);
        two.saw(6, 0, 0);
        look(two, 0, 1);
    }

    private static void fewestLawsAtMost() {
        due.about(42, "so that, they run or not, the fewest laws are left at most");
        CliffCars byA = new CliffCars();
        byA.saw(6, 0, 0);
        look(byA, 1, 3);
        CliffCars byB = new CliffCars();
        byB.saw(0, 0, 1);
        byB.saw(10, 0, 0);
        look(byB, 7, 3);
    }

    private static void lawsLeftAtMost() {
        due.about(42, "the ROW: how many at most");
        CliffCars cars = new CliffCars();
        cars.saw(9, 0, 1);
        look(cars, 11, 10);
        cars.saw(1, 0, 0);
        look(cars, 11, 6);
        cars.saw(11, 0, 1);
        look(cars, 12, 3);
    }

    private static void looksFrom0To30() {
        due.about(42, "By how much above is to weigh more (0 .. 30)");
        CliffCars high = new CliffCars();
        high.saw(0, 0, 1);
        high.saw(11, 0, 1);
        look(high, 12, 1);
        CliffCars low = new CliffCars();
        low.saw(12, 0, 1);
        low.saw(1, 0, 1);
        look(low, 0, 1);
    }

    private static void looksOfNone() {
        due.about(42, "-2: none fits.");
        CliffCars cars = Scenes.busy();
        cars.saw(13, 0, 1);
        String was = Due.shape(cars);
        due.is("looks()", cars.looks(), -2);
        due.same("looks() of none", cars, was);
    }
}
