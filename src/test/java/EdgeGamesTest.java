/** Promises 43 to 46: each sentence that names an edge has a test of its own. */
public final class EdgeGamesTest {
    private static final Due due = new Due("EdgeGamesTest");
    private static final int LEAST = Integer.MIN_VALUE;
    private static final int GREATEST = Integer.MAX_VALUE;

    public static void main(String[] args) {
        due.runEach(EdgeGamesTest.class);
    }

    // ---- promise 43

    private static void wins(int n, long take) {
        CliffCars cars = new CliffCars();
        due.is("pails(" + n + ")", cars.pails(n), 1);
        due.row("pails(" + n + ")", cars, take);
    }

    private static void loses(int n) {
        CliffCars cars = new CliffCars();
        cars.later(0);
        due.is("pails(" + n + ")", cars.pails(n), 0);
        due.row("pails(" + n + ")", cars);
    }

    private static void pailsFrom0To200() {
        due.about(43, "out of a row of n (0 .. 200)");
        loses(0);
        wins(1, 1);
        loses(199);
        wins(200, 1);
    }

    private static void halfOfThemIfTheyAreEven() {
        due.about(43, "1, or half of them, if they are even");
        loses(2);
        wins(3, 1);
        wins(4, 2);
        loses(5);
        loses(7);
        loses(9);
    }

    private static void leastThatHeTakes() {
        due.about(43, "the least number that he takes so");
        wins(10, 1);
        wins(14, 1);
        wins(198, 1);
    }

    private static void nothingForTheLoser() {
        due.about(43, "(nothing without)");
        loses(0);
        loses(2);
        loses(11);
    }

    private static void pailsRefused() {
        due.about(43, "NONE: another n.");
        CliffCars cars = Scenes.busy();
        String was = Due.shape(cars);
        for (int n : new int[] {-1, 201, LEAST, GREATEST}) {
            due.is("pails(" + n + ")", cars.pails(n), -1);
        }
        due.same("pails() refused", cars, was);
    }

    // ---- promise 44

    private static void rest(int v, int pairs, long x, long y) {
        CliffCars cars = new CliffCars();
        due.is("rests(" + v + ")", cars.rests(v), pairs);
        due.row("rests(" + v + ")", cars, x, y);
    }

    private static void puddlesFrom0To20() {
        due.about(44, "of a puddle of v (0 .. 20)");
        rest(0, 4, 8, 8);
        rest(20, 2, 8, 8);
    }

    private static void spongesFrom0To9() {
        due.about(44, "x and y (0 .. 9)");
        rest(18, 1, 9, 9);
        rest(19, 1, 9, 9);
    }

    private static void bothTogetherAreAll() {
        due.about(44, "if both together are v or less, each has its own");
        rest(13, 6, 4, 9);
        rest(17, 2, 8, 9);
    }

    /** By 20 a sponge of 8 has 8 and 1 of the 4 that are left, and would have 9 by 9, too. */
    private static void oneForEachFour() {
        due.about(44, "1 for each 4 (cut) that are left");
        rest(20, 2, 8, 8);
        rest(19, 1, 9, 9);
    }

    /** Half of 8 and half of 9 are the same, cut; less 1 they are 3, so that 2 of its own is less. */
    private static void halfLessOne() {
        due.about(44, "else each has half of its own (cut), less 1");
        rest(5, 4, 8, 8);
        rest(6, 5, 3, 3);
        rest(11, 10, 3, 8);
        rest(12, 8, 3, 9);
    }

    /** By 12 a sponge of 9 and one of 3 rest; by 9 and 9 each has 3, and none would have more. */
    private static void neitherWouldHaveMore() {
        due.about(44, "Pairs by which neither would have more by another number alone: how many");
        rest(12, 8, 3, 9);
        rest(14, 5, 5, 9);
        rest(15, 4, 6, 9);
    }

    /** There is a pair for each puddle, so that no object can answer 0. */
    private static void leastPair() {
        due.about(44, "the ROW: the least (nothing without)");
        for (int v = 0; v <= 20; v++) {
            CliffCars cars = new CliffCars();
            due.is("a pair of " + v, cars.rests(v) > 0, true);
            due.is("numbers of the ROW", cars.count(13), 2);
        }
        rest(7, 6, 3, 4);
        rest(16, 3, 7, 9);
    }

    private static void restsRefused() {
        due.about(44, "NONE: another v.");
        CliffCars cars = Scenes.busy();
        String was = Due.shape(cars);
        for (int v : new int[] {-1, 21, LEAST, GREATEST}) {
            due.is("rests(" + v + ")", cars.rests(v), -1);
        }
        due.same("rests() refused", cars, was);
    }

    // ---- promise 45

    private static void lawOfNone() {
        due.about(45, "THE TEXT is another RULE (an empty one: none)");
        CliffCars cars = new CliffCars();
        Due.write(cars, "9").rule();
        due.is("law() of none", cars.law(), -120);
        due.row("3 and 9 in 20 minutes", cars, 80, 200, 0, 0);
        due.is("THE RULE stays", cars.count(9), 9);
    }

    private static void lawBelow0() {
        due.about(45, "less that by THE RULE (below 0, too)");
        CliffCars cars = new CliffCars();
        due.is("law() of 0", Due.write(cars, "0").law(), -60);
        due.row("20, 80", cars, 20, 80, 0, 0);
        due.is("law() of 9", Due.write(cars, "9").law(), 120);
        due.is("law() of 3", Due.write(cars, "3").law(), 0);
    }

    private static void tripsOfThese() {
        due.about(45, "the ROW: both, by it first, then TRIPS of these by it, by THE RULE");
        CliffCars cars = Due.with("531/999", "0");
        cars.trip();
        due.is("law() of 1", Due.write(cars, "1").law(), 10);
        due.row("it goes by 1, not by 0", cars, 18, 8, 1, 0);
        due.is("TRIPS stay", cars.count(7), 1);
        due.is("CISTERN stays", cars.count(4), 8);
    }

    private static void bad(String rule, int place) {
        CliffCars cars = Scenes.busy();
        String was = Due.shape(cars);
        due.is("law() of " + rule, Due.write(cars, rule).law(), -10000 - place);
        due.is("law() empties THE TEXT", cars.count(14), 0);
        due.same("law() of " + rule, cars, was);
    }

    private static void signsThatAreNoLaw() {
        due.about(45, "-10000 - p: the sign at p can't stand there (as rule())");
        bad("x", 0);
        bad("n+", 2);
        bad("1<2<3", 3);
        bad("(((((1)))))", 4);
        bad("1234", 3);
        bad("1+".repeat(20), 40);
        bad("1+".repeat(20) + "1", 40);
        bad("1+".repeat(19) + "1?" + "1", 39);
        CliffCars forty = new CliffCars();
        due.is("law() of 40 signs", Due.write(forty, "0*".repeat(19) + "11").law(), -60);
    }

    // ---- promise 46

    private static void year(CliffCars cars, int seed, int n, int wait, int carried, int cistern) {
        due.is("years(" + seed + ", " + n + ")", cars.years(seed, n), wait);
        due.row("years(" + seed + ", " + n + ")", cars, carried, cistern);
    }

    /** 14 draws four minutes first; -2^31 one, 1 a party of 7 below. */
    private static void yearsFrom1To60() {
        due.about(46, "n times (1 .. 60)");
        year(new CliffCars(), 1, 1, 1, 0, 20);
        year(new CliffCars(), LEAST, 1, 0, 0, 23);
        year(new CliffCars(), 14, 4, 0, 0, 32);
        NaiveCars naive = new NaiveCars();
        int wait = naive.years(7, 60);
        year(new CliffCars(), 7, 60, wait, (int) naive.row(0), (int) naive.row(1));
    }

    /** 30 draws 1 above, then two minutes; 8 draws 8 below, 2 below, a minute; 44 draws 5 above. */
    private static void noRoomForThem() {
        due.about(46, "whether there is room or not; it comes, if there is");
        CliffCars above = Due.with("12345");
        year(above, 30, 1, 5, 0, 20);
        year(above, 30, 3, 1, 10, 26);
        CliffCars below = Due.with("/12345");
        year(below, 8, 2, 5, 0, 20);
        year(below, 8, 3, 3, 3, 18);
        year(Due.with("1234"), 44, 1, 5, 0, 20);
    }

    /** 17 draws GRIP 0, 4 above, a minute; -5 draws a minute, GRIP 9, a minute. */
    private static void gripsAreDrawn() {
        due.about(46, "3: a DRAW of 10 is GRIP");
        CliffCars light = Due.with("/1");
        light.drains(19);
        year(light, 17, 3, 0, 5, 4);
        CliffCars heavy = Due.with("9/9999");
        heavy.drains(9);
        year(heavy, -5, 2, 2, 27, 3);
        year(heavy, -5, 3, 2, 27, 6);
        due.is("GRIP stays", heavy.count(3), 2);
    }

    /** All that 42 draws has the sign bit: 5 above, 9 above, a minute; 6 draws 1, 7, 4 below. */
    private static void drawsWithoutSign() {
        due.about(46, "(R without sign, by 65536) % n");
        year(new CliffCars(), 42, 3, 0, 14, 23);
        year(new CliffCars(), 6, 3, 3, 0, 20);
        year(new CliffCars(), -1, 1, 1, 0, 20);
    }

    private static void seedsOfEachSign() {
        due.about(46, "R = R times 1103515245 + 12345 (as ints; R is seed at first)");
        year(new CliffCars(), 0, 3, 0, 0, 29);
        year(new CliffCars(), GREATEST, 1, 1, 0, 20);
        year(new CliffCars(), LEAST, 3, 0, 0, 29);
    }

    private static void rowOfYears() {
        due.about(46, "the ROW: DOWN and UP together then, CISTERN then");
        CliffCars cars = Due.with("531/427");
        cars.trip();
        year(cars, 0, 1, 0, 22, 18);
    }

    private static void yearsRefused() {
        due.about(46, "NONE: another n.");
        CliffCars cars = Scenes.busy();
        String was = Due.shape(cars);
        for (int n : new int[] {0, -1, 61, LEAST, GREATEST}) {
            due.is("years(1, " + n + ")", cars.years(1, n), -1);
        }
        due.same("years() refused", cars, was);
    }
}
