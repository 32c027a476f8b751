/** Promises 47 to 50: each sentence that names an edge has a test of its own. */
public final class EdgeKeptTest {
    private static final Due due = new Due("EdgeKeptTest");
    private static final int LEAST = Integer.MIN_VALUE;
    private static final int GREATEST = Integer.MAX_VALUE;

    public static void main(String[] args) {
        due.runEach(EdgeKeptTest.class);
    }

    // ---- promise 47

    private static void twoNumbers() {
        due.about(47, "What undo() brings back is kept under a number 0 .. 1: true");
        CliffCars cars = Due.with("531/427");
        due.is("keep(0)", cars.keep(0), true);
        cars.trip();
        due.is("keep(1)", cars.keep(1), true);
        cars.grips(9);
        cars.seats(3);
        due.is("again(0)", cars.again(0), true);
        due.waits("under 0", cars, "531/427");
        due.is("SEATS", cars.count(2), 2);
        due.is("GRIP", cars.count(3), 2);
        due.is("TRIPS", cars.count(7), 0);
        due.is("again(1)", cars.again(1), true);
        due.waits("under 1", cars, "1/7");
        int[] counts = {2, 2, 23, 8, 6, 1, 1};
        for (int what = 2; what <= 8; what++) {
            due.is("count(" + what + ")", cars.count(what), counts[what - 2]);
        }
    }

    private static void whatUndoDoesNotBringBack() {
        due.about(47, "What undo() brings back");
        CliffCars cars = Due.with("531/427");
        cars.keep(0);
        Due.write(cars, "7").rule();
        cars.heard(0, 1);
        cars.saw(1, 1, 1);
        cars.again(0);
        due.is("SPRING", cars.count(9), 7);
        due.is("what was heard", cars.count(10), 1);
        due.is("what was seen", cars.count(11), 1);
    }

    private static void keptOnceMore() {
        due.about(47, "is kept under a number");
        CliffCars cars = Due.with("531/427");
        cars.keep(0);
        cars.grips(5);
        cars.keep(0);
        cars.grips(6);
        cars.again(0);
        due.is("the latest", cars.count(3), 5);
        cars.grips(7);
        cars.again(0);
        due.is("it stays as it was kept", cars.count(3), 5);
    }

    private static void keepRefused() {
        due.about(47, "Refused: others.");
        CliffCars cars = Scenes.busy();
        String was = Due.shape(cars);
        for (int i : new int[] {-1, 2, LEAST, GREATEST}) {
            due.is("keep(" + i + ")", cars.keep(i), false);
        }
        due.same("keep() refused", cars, was);
    }

    // ---- promise 48

    private static void againRefused() {
        due.about(48, "Refused: nothing kept.");
        CliffCars cars = Due.with("531/427");
        cars.grips(5);
        cars.needs();
        String was = Due.shape(cars);
        due.is("nothing under 0", cars.again(0), false);
        due.is("nothing under 1", cars.again(1), false);
        due.same("nothing kept", cars, was);
        cars.keep(1);
        due.is("nothing under 0", cars.again(0), false);
        cars.keep(0);
        for (int i : new int[] {-1, 2, LEAST, GREATEST}) {
            due.is("again(" + i + ")", cars.again(i), false);
        }
        due.same("no such number", cars, was);
    }

    private static void againAsItWas() {
        due.about(48, "It is as it was kept under a number.");
        CliffCars cars = Due.with("531/427");
        cars.keep(1);
        cars.runs(9);
        due.is("again(1)", cars.again(1), true);
        due.waits("again(1)", cars, "531/427");
        due.is("again(1) once more", cars.again(1), true);
        due.is("CISTERN", cars.count(4), 20);
    }

    // ---- promise 49

    private static void countsOfAll() {
        due.about(49, "What 0: how many wait ABOVE");
        CliffCars cars = Due.with("531/42");
        cars.seats(1);
        cars.grips(3);
        cars.trip();
        cars.heard(0, 0);
        cars.saw(1, 1, 0);
        cars.saw(2, 1, 0);
        Due.write(cars, "n+7").rule();
        Due.write(cars, "x");
        int[] counts = {2, 1, 1, 3, 21, 5, 4, 1, 1, 8, 1, 2, 3, 2, 1};
        for (int what = 0; what <= 14; what++) {
            due.is("count(" + what + ")", cars.count(what), counts[what]);
        }
    }

    private static void countRefused() {
        due.about(49, "NONE for another what.");
        CliffCars cars = Scenes.busy();
        String was = Due.shape(cars);
        for (int what : new int[] {-1, 15, LEAST, GREATEST}) {
            due.is("count(" + what + ")", cars.count(what), -1);
        }
        due.same("count() refused", cars, was);
    }

    // ---- promise 50

    private static void noSuchNumber() {
        due.about(50, "NoSuchElementException: none such.");
        CliffCars cars = new CliffCars();
        due.noRow("a new object", cars, 0);
        cars.later(0);
        for (int i = 0; i <= 3; i++) {
            due.is("row(" + i + ")", cars.row(i), 0);
        }
        for (int i : new int[] {4, -1, LEAST, GREATEST}) {
            due.noRow("four numbers", cars, i);
        }
        cars.dry(999);
        due.is("row(0)", cars.row(0), 20);
        for (int i : new int[] {1, 2, 3, -1}) {
            due.noRow("one number behind four", cars, i);
        }
        cars.freely();
        due.noRow("nothing behind one number", cars, 0);
    }
}
