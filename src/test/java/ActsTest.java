/** Promises 8 to 17: trips, minutes, brakes, parties that go, days, undo. */
public final class ActsTest {
    private static final Due due = new Due("ActsTest");

    public static void main(String[] args) {
        trips();
        tripOrder();
        cisternIsFullAt999();
        sends();
        sendsRefused();
        runs();
        gripsAndSeats();
        leaves();
        swaps();
        drains();
        days();
        daysThatStop();
        daysThatCannotStand();
        dayLimits();
        undoOfEach();
        undoOfTwelve();
        undoLeaves();
        due.finish();
    }

    private static void trips() {
        CliffCars cars = Due.with("531/427");
        due.is("trip()", cars.trip(), 4);
        due.row("trip()", cars, 0, 23);
        due.waits("those behind move up", cars, "1/7");
        due.is("DOWN", cars.count(5), 8);
        due.is("UP", cars.count(6), 6);
        due.is("TRIPS", cars.count(7), 1);
        due.is("MINUTES", cars.count(8), 1);
        due.is("trip()", cars.trip(), 2);
        due.row("trip()", cars, 8, 18);
        due.is("nobody waits", cars.trip(), -2);
        due.row("the ROW stays", cars, 8, 18);
        due.is("MINUTES stay", cars.count(8), 2);

        CliffCars heavy = Due.with("/999");
        due.is("18 and 2 of 20", heavy.trip(), 2);
        due.row("just enough", heavy, 20, 3);
        due.is("9 and 2 of 3", heavy.trip(), -3);
        due.row("the ROW stays", heavy, 20, 3);
        due.waits("nobody went", heavy, "/9");
        due.is("MINUTES", heavy.count(8), 1);
        due.is("one can be undone", heavy.count(12), 1);

        CliffCars light = Due.with("9");
        due.is("one alone from above", light.trip(), 1);
        due.row("needs none", light, 0, 23);
    }

    private static void tripOrder() {
        CliffCars cars = Due.with("531/427", "c-15");
        due.is("c behind the TRIP, ahead of its MINUTE", cars.trip(), 4);
        due.row("20 - 0, and 5", cars, 0, 25);
        due.is("trip()", cars.trip(), 2);
        due.row("25 - 8, and 2", cars, 8, 19);

        CliffCars tripsAreCounted = Due.with("9", "t*5");
        tripsAreCounted.trip();
        due.row("t is 1 more already", tripsAreCounted, 0, 25);

        CliffCars minutesAreNot = Due.with("9", "n*5");
        minutesAreNot.trip();
        due.row("n is not yet", minutesAreNot, 0, 20);

        CliffCars gone = Due.with("995/1", "u*10+w");
        gone.trip();
        due.row("1 is left: 9", gone, 0, 29);
        CliffCars below = Due.with("99/12345", "d");
        below.trip();
        due.row("3 are left", below, 0, 23);
        below.seats(3);
        below.runs(1);
        due.row("3 and 4 and 5 and 2 need 14", below, 0, 9);
    }

    private static void cisternIsFullAt999() {
        CliffCars cars = new CliffCars();
        Due.write(cars, "9").rule();
        cars.runs(60);
        due.row("20 and 540", cars, 0, 560);
        cars.runs(48);
        due.row("560 and 432", cars, 0, 992);
        cars.runs(1);
        due.row("999 at most", cars, 0, 999);
        cars.runs(60);
        due.row("999 at most", cars, 0, 999);
        due.is("MINUTES", cars.count(8), 169);
    }

    private static void sends() {
        CliffCars cars = Due.with("53142/427");
        due.is("the second and fourth, the third", cars.sends(10, 4), 3);
        due.row("7 and 2 less 7", cars, 2, 21);
        due.waits("those behind move up", cars, "512/42");
        due.is("DOWN", cars.count(5), 7);
        due.is("UP", cars.count(6), 7);
        due.is("none from above", cars.sends(0, 2), 1);
        due.row("2 and 2", cars, 4, 20);
        due.is("none from below", cars.sends(5, 0), 2);
        due.row("0 at least", cars, 0, 23);
        due.waits("left", cars, "1/4");
        due.is("TRIPS", cars.count(7), 3);
        due.is("what can be undone", cars.count(12), 3);
    }

    private static void sendsRefused() {
        CliffCars cars = Due.with("531/999");
        cars.needs();
        due.is("both empty", cars.sends(0, 0), -2);
        due.is("party 3 ABOVE", cars.sends(8, 0), -1);
        due.is("party 3 BELOW", cars.sends(1, 8), -1);
        due.is("party 5", cars.sends(32, 0), -1);
        due.is("bits below 0", cars.sends(-1, 0), -1);
        due.is("bits below 0", cars.sends(0, Integer.MIN_VALUE), -1);
        due.is("3 of 2 SEATS", cars.sends(7, 1), -1);
        due.is("3 of 2 SEATS", cars.sends(0, 7), -1);
        cars.drains(1);
        due.is("20 of 19", cars.sends(0, 3), -3);
        due.is("NONE ahead of -3", cars.sends(8, 3), -1);
        due.row("the ROW stays", cars, 8, 18);
        due.waits("nobody went", cars, "531/999");
        due.is("what can be undone", cars.count(12), 1);
        due.is("with 1 more", cars.sends(4, 3), 3);
        due.row("with 1 more", cars, 19, 3);
        cars.seats(3);
        due.is("3 SEATS", cars.sends(3, 1), 3);

        CliffCars dry = Due.with("1");
        dry.drains(20);
        due.is("both empty, no water for GRIP", dry.sends(0, 0), -2);
    }

    private static void runs() {
        CliffCars cars = Due.with("531/427");
        due.is("runs(0)", cars.runs(0), 0);
        due.row("runs(0)", cars, 0, 20);
        due.is("runs(0) can be undone", cars.count(12), 1);
        due.is("runs(-1)", cars.runs(-1), -1);
        due.is("runs(61)", cars.runs(61), -1);
        due.row("the ROW stays", cars, 0, 20);
        due.is("what can be undone", cars.count(12), 1);
        due.is("runs(5)", cars.runs(5), 2);
        due.row("two TRIPS, then nobody waits", cars, 0, 27);
        due.is("MINUTES", cars.count(8), 5);

        CliffCars heavy = Due.with("/999");
        due.is("runs(10)", heavy.runs(10), 2);
        due.row("3, 6, 9, 12 and the TRIP, 4 .. ", heavy, 3, 19);
        due.is("UP", heavy.count(6), 27);
        due.is("runs(60)", heavy.runs(60), 0);
        due.row("nobody waits", heavy, 0, 199);
    }

    private static void gripsAndSeats() {
        CliffCars cars = Due.with("531/427");
        cars.needs();
        due.is("grips(0)", cars.grips(0), 12);
        due.is("grips(0)", cars.grips(0), -2);
        due.is("grips(9)", cars.grips(9), 10);
        due.is("GRIP", cars.count(3), 9);
        due.is("grips(10)", cars.grips(10), -1);
        due.is("grips(-1)", cars.grips(-1), -1);
        due.is("grips(2)", cars.grips(2), 19);
        due.is("what can be undone", cars.count(12), 3);
        due.is("seats(2)", cars.seats(2), -2);
        due.is("seats(1)", cars.seats(1), 12);
        due.is("seats(3)", cars.seats(3), 11);
        due.is("SEATS", cars.count(2), 3);
        due.is("seats(0)", cars.seats(0), -1);
        due.is("seats(4)", cars.seats(4), -1);
        due.is("seats(2)", cars.seats(2), 13);
        due.is("what can be undone", cars.count(12), 6);
        due.row("the ROW stays", cars, 8, 6);
        due.is("MINUTES stay", cars.count(8), 0);
    }

    private static void leaves() {
        CliffCars cars = Due.with("531/42");
        due.is("leaves(0, 3)", cars.leaves(0, 3), -1);
        due.is("leaves(1, 2)", cars.leaves(1, 2), -1);
        due.is("leaves(0, -1)", cars.leaves(0, -1), -1);
        due.is("leaves(2, 0)", cars.leaves(2, 0), -1);
        due.is("leaves(-1, 0)", cars.leaves(-1, 0), -1);
        due.is("leaves(0, 1)", cars.leaves(0, 1), 2);
        due.waits("the second one is gone", cars, "51/42");
        due.is("leaves(1, 1)", cars.leaves(1, 1), 1);
        due.is("leaves(1, 0)", cars.leaves(1, 0), 0);
        due.is("leaves(1, 0)", cars.leaves(1, 0), -1);
        due.waits("left", cars, "51/");
        due.is("nothing was carried", cars.count(5) + cars.count(6) + cars.count(7), 0);
        due.is("what can be undone", cars.count(12), 3);
    }

    private static void swaps() {
        CliffCars cars = Due.with("531/44");
        due.is("swaps(0, 0)", cars.swaps(0, 0), 3);
        due.is("swaps(0, 1)", cars.swaps(0, 1), 1);
        due.waits("swaps", cars, "315/44");
        due.is("swaps(0, 2)", cars.swaps(0, 2), -2);
        due.is("swaps(0, 3)", cars.swaps(0, 3), -1);
        due.is("swaps(0, -1)", cars.swaps(0, -1), -1);
        due.is("swaps(2, 0)", cars.swaps(2, 0), -1);
        due.is("swaps(-1, 0)", cars.swaps(-1, 0), -1);
        due.is("what can be undone", cars.count(12), 2);
        due.is("swaps(1, 0) of equal ones", cars.swaps(1, 0), 4);
        due.is("what can be undone", cars.count(12), 3);
        due.is("swaps(1, 1)", cars.swaps(1, 1), -2);
        due.is("nobody waits", new CliffCars().swaps(0, 0), -1);
        due.is("k + 1 goes round", cars.swaps(0, Integer.MAX_VALUE), -1);
    }

    private static void drains() {
        CliffCars cars = new CliffCars();
        due.is("drains(0)", cars.drains(0), -1);
        due.is("drains(100)", cars.drains(100), -1);
        due.is("drains(-5)", cars.drains(-5), -1);
        due.is("drains(21)", cars.drains(21), -2);
        due.is("drains(99)", cars.drains(99), -2);
        due.is("drains(20)", cars.drains(20), 0);
        due.is("drains(1)", cars.drains(1), -2);
        due.is("what can be undone", cars.count(12), 1);
        due.is("MINUTES stay", cars.count(8), 0);
        cars.runs(40);
        due.is("drains(99)", cars.drains(99), 21);
    }

    private static void day(CliffCars cars, String text, int want) {
        due.is("day() of " + text, Due.write(cars, text).day(), want);
        due.is("THE TEXT behind day()", cars.count(14), 0);
    }

    private static void days() {
        CliffCars cars = Due.with("531/427");
        day(cars, "", 0);
        due.row("an empty day", cars, 0, 20);
        due.is("an empty day can't be undone", cars.count(12), 0);
        day(cars, "g5s1l02x10o06n2*", 7);
        due.row("14 - 2 + 3 - 6 + 3 - 12 + 3", cars, 0, 3);
        due.waits("5 and 2 went, 3 and 4, then 7 alone", cars, "/");
        due.is("GRIP", cars.count(3), 5);
        due.is("SEATS", cars.count(2), 1);
        due.is("MINUTES", cars.count(8), 3);
        due.is("a day is undone as one", cars.count(12), 1);
        due.is("undo()", cars.undo(), 0);
        due.waits("all is back", cars, "531/427");
        due.is("CISTERN", cars.count(4), 20);
        due.is("GRIP", cars.count(3), 2);
        due.is("SEATS", cars.count(2), 2);
        due.is("THE TEXT does not come back", cars.count(14), 0);

        CliffCars idle = new CliffCars();
        day(idle, "n0", 1);
        due.is("n0 was done", idle.count(12), 1);
        day(idle, "n9n9", 2);
        due.row("18 minutes", idle, 0, 74);
        day(idle, "o12", 1);
        due.row("74 - 12", idle, 0, 62);
        day(idle, "o50", 1);
        due.row("62 - 50", idle, 0, 12);
        day(idle, "s3s1s2", 3);
        due.is("SEATS", idle.count(2), 2);
        day(idle, "s3g9", 2);
        due.is("SEATS", idle.count(2), 3);
        due.is("GRIP", idle.count(3), 9);
    }

    private static void daysThatStop() {
        CliffCars cars = Due.with("531/427");
        day(cars, "g2*", 0);
        due.row("it can't be", cars, 1, 20);
        due.is("nothing to undo", cars.count(12), 0);
        day(cars, "g3g3*", 1);
        due.row("one was done", cars, 1, 20);
        due.waits("the TRIP was not", cars, "531/427");
        due.is("that can be undone", cars.count(12), 1);
        day(cars, "l20", 0);
        day(cars, "l03", 0);
        day(cars, "x02", 0);
        day(cars, "x99", 0);
        day(cars, "o00", 0);
        day(cars, "o21", 0);
        day(cars, "s2", 0);
        due.row("none could be", cars, 1, 20);
        day(cars, "***", 2);
        due.row("20 - 1 + 3 - 9 + 3, then nobody waits", cars, 1, 16);
        day(cars, "*", 0);
        due.row("nobody waits", cars, 1, 16);
        due.is("what can be undone", cars.count(12), 2);
    }

    private static void daysThatCannotStand() {
        CliffCars cars = Due.with("531/427");
        cars.needs();
        day(cars, "a", -1);
        day(cars, "0", -1);
        day(cars, "* *", -2);
        day(cars, "**G1", -3);
        day(cars, "n", -2);
        day(cars, "nx", -2);
        day(cars, "n10", -3);
        day(cars, "g", -2);
        day(cars, "g*", -2);
        day(cars, "s", -2);
        day(cars, "s0", -2);
        day(cars, "s4", -2);
        day(cars, "l", -2);
        day(cars, "l0", -3);
        day(cars, "l0*", -3);
        day(cars, "l*0", -2);
        day(cars, "x1", -3);
        day(cars, "xx", -2);
        day(cars, "o1", -3);
        day(cars, "o/1", -2);
        day(cars, "o1:", -3);
        day(cars, "*****n", -7);
        due.waits("nothing is done", cars, "531/427");
        due.row("the ROW stays", cars, 8, 6);
        due.is("nothing to undo", cars.count(12), 0);
    }

    private static void dayLimits() {
        CliffCars cars = new CliffCars();
        day(cars, "n0".repeat(30), 30);
        day(cars, "n0".repeat(30) + "*", -61);
        day(cars, "n0".repeat(30) + "?", -61);
        day(cars, "n0".repeat(29) + "*n", -61);
        day(cars, "n0".repeat(29) + "*n0", -61);
        day(cars, "n0".repeat(29) + "l00", -61);
        day(cars, "n0".repeat(29) + "*l00", -61);
        day(cars, "n0".repeat(40), -61);
        day(cars, "n0".repeat(29) + "*?" + "0".repeat(20), -60);
        day(cars, "n0".repeat(29) + "*l0?", -61);
        day(cars, "*".repeat(59) + "?", -60);
        day(cars, "*".repeat(60), 0);
        day(cars, "*".repeat(61), -61);
        day(cars, "n0".repeat(28) + "*o99", 28);
        due.row("nobody waits", cars, 1, 20);
    }

    private static void undoOfEach() {
        CliffCars cars = Due.with("531/427");
        due.is("undo() of none", cars.undo(), -1);
        cars.trip();
        cars.sends(1, 0);
        cars.runs(2);
        cars.grips(9);
        cars.seats(3);
        Due.write(cars, "o05").day();
        cars.drains(1);
        due.is("what can be undone", cars.count(12), 7);
        due.is("undo()", cars.undo(), 6);
        due.is("CISTERN", cars.count(4), 17);
        due.is("undo()", cars.undo(), 5);
        due.is("CISTERN", cars.count(4), 22);
        due.is("undo()", cars.undo(), 4);
        due.is("SEATS", cars.count(2), 2);
        due.is("undo()", cars.undo(), 3);
        due.is("GRIP", cars.count(3), 2);
        due.is("undo()", cars.undo(), 2);
        due.waits("ahead of runs()", cars, "/7");
        due.is("CISTERN", cars.count(4), 25);
        due.is("MINUTES", cars.count(8), 2);
        due.is("UP", cars.count(6), 6);
        due.is("undo()", cars.undo(), 1);
        due.waits("ahead of sends()", cars, "1/7");
        due.is("undo()", cars.undo(), 0);
        due.waits("ahead of trip()", cars, "531/427");
        due.is("DOWN, UP, TRIPS, MINUTES", cars.count(5) + cars.count(6) + cars.count(7) + cars.count(8), 0);
        due.is("undo()", cars.undo(), -1);
        cars.leaves(0, 0);
        cars.swaps(1, 0);
        due.is("undo() of swaps()", cars.undo(), 1);
        due.waits("ahead of swaps()", cars, "31/427");
        due.is("undo() of leaves()", cars.undo(), 0);
        due.waits("ahead of leaves()", cars, "531/427");
    }

    private static void undoOfTwelve() {
        CliffCars cars = new CliffCars();
        for (int i = 1; i <= 20; i++) {
            cars.drains(1);
            due.is("12 are kept", cars.count(12), Math.min(12, i));
        }
        for (int left = 11; left >= 0; left--) {
            due.is("undo()", cars.undo(), left);
            due.is("CISTERN", cars.count(4), 12 - left);
        }
        due.is("undo()", cars.undo(), -1);
        due.is("the latest ones", cars.count(4), 12);
        for (int i = 1; i <= 12; i++) {
            cars.drains(1);
        }
        due.is("undo()", cars.undo(), 11);
        due.is("CISTERN", cars.count(4), 1);
        cars.runs(1);
        due.is("again 12", cars.count(12), 12);
        cars.undo();
        due.is("CISTERN", cars.count(4), 1);
    }

    private static void undoLeaves() {
        CliffCars cars = Due.with("531/427");
        cars.trip();
        Due.write(cars, "7").rule();
        cars.heard(0, 1);
        cars.saw(9, 1, 1);
        Due.write(cars, "abc");
        cars.keep(1);
        due.is("undo()", cars.undo(), 0);
        due.is("THE RULE stays", cars.count(9), 7);
        due.is("what was heard stays", cars.count(10), 1);
        due.is("what was seen stays", cars.count(11), 1);
        due.is("THE TEXT stays", cars.count(14), 3);
        due.row("the ROW stays", cars, 0, 23);
        due.is("what was kept stays", cars.again(1), true);
        due.waits("as it was kept", cars, "1/7");
    }
}
