/** Promises 47 to 50: keep, again, count, row. */
public final class KeptTest {
    private static final Due due = new Due("KeptTest");

    public static void main(String[] args) {
        keepAndAgain();
        refused();
        whatIsNotKept();
        counts();
        rows();
        due.finish();
    }

    private static void keepAndAgain() {
        CliffCars cars = Due.with("531/427");
        due.is("keep(0)", cars.keep(0), true);
        cars.trip();
        due.is("keep(1)", cars.keep(1), true);
        cars.grips(9);
        cars.seats(3);
        cars.runs(3);
        due.is("again(0)", cars.again(0), true);
        due.waits("again(0)", cars, "531/427");
        int[] counts = {3, 3, 2, 2, 20, 0, 0, 0, 0};
        for (int what = 0; what < counts.length; what++) {
            due.is("count(" + what + ") behind again(0)", cars.count(what), counts[what]);
        }
        due.is("what could be undone is forgotten", cars.count(12), 0);
        due.is("undo()", cars.undo(), -1);
        due.is("again(1)", cars.again(1), true);
        due.waits("again(1)", cars, "1/7");
        due.is("DOWN", cars.count(5), 8);
        due.is("UP", cars.count(6), 6);
        due.is("TRIPS", cars.count(7), 1);
        due.is("MINUTES", cars.count(8), 1);
        cars.leaves(0, 0);
        due.is("again(1) once more", cars.again(1), true);
        due.waits("what is kept does not change", cars, "1/7");
        due.is("keep(0) once more", cars.keep(0), true);
        cars.trip();
        due.is("again(0)", cars.again(0), true);
        due.waits("the latest is kept", cars, "1/7");
    }

    private static void refused() {
        CliffCars cars = Due.with("531/427");
        cars.trip();
        due.is("keep(-1)", cars.keep(-1), false);
        due.is("keep(2)", cars.keep(2), false);
        due.is("again(-1)", cars.again(-1), false);
        due.is("again(2)", cars.again(2), false);
        due.is("nothing kept under 0", cars.again(0), false);
        due.is("nothing kept under 1", cars.again(1), false);
        due.is("a refused again() forgets nothing", cars.count(12), 1);
        due.waits("nothing changes", cars, "1/7");
        cars.keep(1);
        due.is("keep() forgets nothing", cars.count(12), 1);
        due.is("nothing kept under 0", cars.again(0), false);
        due.is("undo()", cars.undo(), 0);
    }

    private static void whatIsNotKept() {
        CliffCars cars = Due.with("531/427");
        cars.keep(0);
        Due.write(cars, "7").rule();
        cars.heard(0, 1);
        cars.saw(1, 1, 1);
        Due.write(cars, "abcde");
        cars.needs();
        due.is("again(0)", cars.again(0), true);
        due.is("SPRING", cars.count(9), 7);
        due.is("what was heard", cars.count(10), 1);
        due.is("what was seen", cars.count(11), 1);
        due.is("THE TEXT", cars.count(14), 5);
        due.row("the ROW stays", cars, 8, 6);
    }

    private static void counts() {
        CliffCars cars = Due.with("531/42");
        cars.seats(1);
        cars.grips(3);
        cars.trip();
        cars.heard(0, 0);
        cars.saw(1, 1, 0);
        cars.saw(2, 1, 0);
        Due.write(cars, "n+7").rule();
        Due.write(cars, "x");
        int[] counts = {2, 1, 1, 3, 21, 5, 4, 1, 1, 8, 1, 2, 3, 2, 1};
        for (int what = 0; what < counts.length; what++) {
            due.is("count(" + what + ")", cars.count(what), counts[what]);
        }
        due.is("count(15)", cars.count(15), -1);
        due.is("count(-1)", cars.count(-1), -1);
        due.is("count(2147483647)", cars.count(Integer.MAX_VALUE), -1);
    }

    private static void rows() {
        CliffCars cars = new CliffCars();
        due.row("none yet", cars);
        cars.later(0);
        due.row("four", cars, 0, 0, 0, 0);
        cars.dry(999);
        due.row("one", cars, 20);
        cars.freely();
        due.row("none", cars);
    }
}
