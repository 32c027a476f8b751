/** Promises 43 to 46: pails, sponges, rules, years. */
public final class GamesTest {
    private static final Due due = new Due("GamesTest");

    public static void main(String[] args) {
        pails();
        rests();
        law();
        years();
        yearsRefused();
        due.finish();
    }

    private static void pails() {
        CliffCars cars = new CliffCars();
        cars.done();
        due.is("pails(-1)", cars.pails(-1), -1);
        due.is("pails(201)", cars.pails(201), -1);
        due.row("the ROW stays", cars, 20, 0);
        int[] takes = {0, 1, 0, 1, 2, 0, 1, 0, 1, 0, 1, 0, 1};
        for (int n = 0; n < takes.length; n++) {
            due.is("pails(" + n + ")", cars.pails(n), takes[n] > 0 ? 1 : 0);
            if (takes[n] > 0) {
                due.row("pails(" + n + ")", cars, takes[n]);
            } else {
                due.row("nothing without", cars);
            }
        }
        due.is("pails(200)", cars.pails(200), 1);
        due.row("pails(200)", cars, 1);
        due.is("pails(199)", cars.pails(199), 0);
        due.row("nothing without", cars);
        due.is("a shorter row behind a longer one", cars.pails(4), 1);
        due.row("a shorter row behind a longer one", cars, 2);
    }

    private static void rests() {
        CliffCars cars = new CliffCars();
        cars.done();
        due.is("rests(-1)", cars.rests(-1), -1);
        due.is("rests(21)", cars.rests(21), -1);
        due.row("the ROW stays", cars, 20, 0);
        int[][] rest = {
            {0, 4, 8, 8}, {5, 4, 8, 8}, {6, 5, 3, 3}, {7, 6, 3, 4}, {11, 10, 3, 8}, {12, 8, 3, 9}, {14, 5, 5, 9},
            {16, 3, 7, 9}, {17, 2, 8, 9}, {18, 1, 9, 9}, {19, 1, 9, 9}, {20, 2, 8, 8}
        };
        for (int[] r : rest) {
            due.is("rests(" + r[0] + ")", cars.rests(r[0]), r[1]);
            due.row("rests(" + r[0] + ")", cars, r[2], r[3]);
        }
    }

    private static void law() {
        CliffCars cars = new CliffCars();
        due.is("law() of none", cars.law(), 0);
        due.row("none: 3", cars, 80, 80, 0, 0);
        due.is("law() of 5", Due.write(cars, "5").law(), 40);
        due.row("20 times 5, 3", cars, 120, 80, 0, 0);
        due.is("law() of 0", Due.write(cars, "0").law(), -60);
        due.row("20 times 0, 3", cars, 20, 80, 0, 0);
        due.is("law() of x", Due.write(cars, "x").law(), -10000);
        due.is("law() of n+", Due.write(cars, "n+").law(), -10002);
        due.row("the ROW stays", cars, 20, 80, 0, 0);
        due.is("THE TEXT", cars.count(14), 0);
        Due.write(cars, "9").rule();
        due.is("law() of none", cars.law(), -120);
        due.row("none by a RULE of 9", cars, 80, 200, 0, 0);
        due.is("law() of 41 signs", Due.write(cars, "1+".repeat(20) + "1").law(), -10040);

        CliffCars trips = Due.with("531/999", "0");
        trips.trip();
        due.is("7 are left: 10 for 1 and 9", trips.count(4), 8);
        due.is("law() of 1", Due.write(trips, "1").law(), 10);
        due.row("it goes by 1, not by 0", trips, 18, 8, 1, 0);
        due.is("TRIPS stay", trips.count(7), 1);
        due.is("CISTERN stays", trips.count(4), 8);

        CliffCars full = new CliffCars();
        Due.write(full, "9").rule();
        full.runs(60);
        full.runs(45);
        due.is("law() of 0", Due.write(full, "0").law(), -34);
        due.row("999 at most", full, 965, 999, 0, 0);
    }

    private static void year(CliffCars cars, int seed, int n, int wait, int carried, int cistern) {
        due.is("years(" + seed + ", " + n + ")", cars.years(seed, n), wait);
        due.row("years(" + seed + ", " + n + ")", cars, carried, cistern);
    }

    /** What the seeds draw was reckoned by hand: 1 draws 7 below, 1 above, GRIP 5, 3 below, a minute. */
    private static void years() {
        CliffCars none = new CliffCars();
        year(none, 1, 1, 1, 0, 20);
        year(none, 1, 2, 2, 0, 20);
        year(none, 1, 4, 3, 0, 20);
        year(none, 1, 5, 0, 11, 9);
        year(none, 44, 2, 0, 5, 23);
        year(none, 44, 5, 0, 16, 13);
        year(none, 14, 5, 0, 0, 35);
        year(none, -1, 1, 1, 0, 20);
        year(none, Integer.MIN_VALUE, 1, 0, 0, 23);
        due.is("GRIP stays", none.count(3), 2);
        due.waits("nobody came", none, "/");
        year(Due.with("/1"), 5, 2, 0, 1, 17);
        CliffCars full = Due.with("12345");
        year(full, 30, 1, 5, 0, 20);
        year(full, 30, 3, 1, 10, 26);
        CliffCars carried = Due.with("531/427");
        carried.trip();
        year(carried, 0, 1, 0, 22, 18);
        Due.write(none, "9").rule();
        year(none, 14, 5, 0, 0, 65);
    }

    private static void yearsRefused() {
        CliffCars cars = new CliffCars();
        cars.done();
        due.is("years(1, 0)", cars.years(1, 0), -1);
        due.is("years(1, 61)", cars.years(1, 61), -1);
        due.is("years(1, -1)", cars.years(1, -1), -1);
        due.row("the ROW stays", cars, 20, 0);
        due.is("years(1, 60) is well", cars.years(1, 60) >= 0, true);
        due.is("it can't be undone", cars.undo(), -1);
    }
}
