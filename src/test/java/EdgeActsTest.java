/** Promises 8 to 17: each sentence that names an edge has a test of its own. */
public final class EdgeActsTest {
    private static final Due due = new Due("EdgeActsTest");
    private static final int LEAST = Integer.MIN_VALUE;
    private static final int GREATEST = Integer.MAX_VALUE;

    public static void main(String[] args) {
        due.runEach(EdgeActsTest.class);
    }

    // ---- promise 8

    private static void tripOfTheFirstAndOfAll() {
        due.about(8, "THE NEXT TRIP: how many parties it carried");
        CliffCars cars = Scenes.by("12/3456", 3, 2);
        due.is("2 of 3 SEATS above, 3 of 4 below", cars.trip(), 5);
        due.waits("left", cars, "/6");
        due.is("none above", cars.trip(), 1);
        due.is("none below", Due.with("1").trip(), 1);
        due.is("all SEATS", Scenes.by("11111/11111", 3, 0).trip(), 6);
    }

    private static void rowOfATrip() {
        due.about(8, "WATER that it needed, CISTERN then (a MINUTE later)");
        CliffCars none = Due.with("9");
        none.trip();
        due.row("no water, and 3 more", none, 0, 23);
        CliffCars all = Due.with("/99");
        all.trip();
        due.row("all 20, and 3 more", all, 20, 3);
    }

    private static void tripOfNobody() {
        due.about(8, "-2: nobody waits");
        CliffCars cars = Due.with("9");
        cars.trip();
        String was = Due.shape(cars);
        due.is("trip()", cars.trip(), -2);
        due.same("trip() of nobody", cars, was);
        cars.drains(23);
        due.is("nor is there water", cars.trip(), -2);
    }

    private static void tripWithoutWater() {
        due.about(8, "-3: there is not so much water");
        CliffCars cars = Due.with("/99");
        cars.drains(1);
        cars.needs();
        String was = Due.shape(cars);
        due.is("20 of 19", cars.trip(), -3);
        due.same("trip() without water", cars, was);
        cars.undo();
        due.is("20 of 20", cars.trip(), 2);
        CliffCars above = Scenes.by("1", 2, 2);
        above.drains(20);
        due.is("1 of 0", above.trip(), -3);
        above.grips(1);
        due.is("0 of 0", above.trip(), 1);
    }

    // ---- promise 9

    private static void sendsRowAsTrip() {
        due.about(9, "the ROW: as trip()");
        CliffCars cars = Due.with("53142/427");
        due.is("the second and fourth, the third", cars.sends(10, 4), 3);
        due.row("7 and 2 less 7; 3 more", cars, 2, 21);
        due.waits("those behind move up", cars, "512/42");
    }

    private static void sendsNobody() {
        due.about(9, "-2: both are empty");
        CliffCars cars = Scenes.busy();
        String was = Due.shape(cars);
        due.is("sends(0, 0)", cars.sends(0, 0), -2);
        due.same("sends(0, 0)", cars, was);
        cars.drains(20);
        due.is("nor is there water for GRIP", cars.sends(0, 0), -2);
        due.is("nobody waits", new CliffCars().sends(0, 0), -2);
    }

    private static void sendsWithoutWater() {
        due.about(9, "-3: there is not so much water");
        CliffCars cars = Due.with("5/999");
        cars.drains(1);
        cars.needs();
        String was = Due.shape(cars);
        due.is("20 of 19", cars.sends(0, 6), -3);
        due.same("sends() without water", cars, was);
        due.is("11 of 19", cars.sends(0, 4), 1);
        due.row("11, 3 more", cars, 11, 11);
        due.is("11 of 11", cars.sends(0, 2), 1);
        due.row("11, 3 more", cars, 11, 3);
    }

    private static void sendsOneThatDoesNotWait() {
        due.about(9, "NONE: bits of a party that does not wait");
        CliffCars cars = Scenes.busy();
        String was = Due.shape(cars);
        for (int bits : new int[] {8, 9, 16, 32, 1 << 30, LEAST, -1, -8}) {
            due.is("sends(" + bits + ", 1)", cars.sends(bits, 1), -1);
            due.is("sends(1, " + bits + ")", cars.sends(1, bits), -1);
            due.is("sends(" + bits + ", 0)", cars.sends(bits, 0), -1);
            due.is("sends(0, " + bits + ")", cars.sends(0, bits), -1);
        }
        due.same("sends() refused", cars, was);
        due.is("nobody waits", new CliffCars().sends(1, 0), -1);
        due.is("nobody BELOW", Due.with("9").sends(1, 1), -1);
        due.is("party 5", Due.with("12345/12345").sends(32, 0), -1);
    }

    private static void sendsMoreThanSeats() {
        due.about(9, "more than SEATS");
        for (int seats = 1; seats <= 3; seats++) {
            CliffCars cars = Scenes.by("99999/11111", seats, 0);
            String was = Due.shape(cars);
            int tooMany = (2 << seats) - 1;
            due.is("above", cars.sends(tooMany, 0), -1);
            due.is("below", cars.sends(1, tooMany), -1);
            due.is("others above", cars.sends(tooMany << (4 - seats), 0), -1);
            due.same("sends() refused", cars, was);
            int all = (1 << seats) - 1;
            due.is("just so many", cars.sends(all << (5 - seats), all), 2 * seats);
        }
    }

    // ---- promise 10

    private static void runsNoMinute() {
        due.about(10, "n minutes (0 .. 60) of RUNNING");
        CliffCars cars = Due.with("531/427");
        due.is("runs(0)", cars.runs(0), 0);
        due.row("runs(0)", cars, 0, 20);
        due.is("MINUTES", cars.count(8), 0);
        due.waits("runs(0)", cars, "531/427");
        due.is("runs(60)", cars.runs(60), 2);
        due.is("MINUTES", cars.count(8), 60);
    }

    private static void minutesWithoutATrip() {
        due.about(10, "how many minutes there was none, though somebody waited");
        CliffCars cars = Due.with("/999");
        due.is("20 in the first minute; 3, 6, 9, 12 and 11", cars.runs(10), 2);
        due.row("three minutes without, then nobody waits", cars, 3, 19);
        due.is("nobody waits", cars.runs(5), 0);
        due.row("nobody waits", cars, 0, 34);
        CliffCars stuck = Scenes.neverGoes();
        due.is("never", stuck.runs(60), 0);
        due.row("never", stuck, 60, 20);
    }

    private static void runsRefused() {
        due.about(10, "Refused: another n.");
        CliffCars cars = Scenes.busy();
        String was = Due.shape(cars);
        for (int n : new int[] {-1, 61, LEAST, GREATEST}) {
            due.is("runs(" + n + ")", cars.runs(n), -1);
        }
        due.same("runs() refused", cars, was);
    }

    // ---- promise 11

    private static void gripFromLeastToGreatest() {
        due.about(11, "GRIP becomes v (0 .. 9): 10 and what it was");
        CliffCars cars = new CliffCars();
        due.is("grips(0)", cars.grips(0), 12);
        due.is("GRIP", cars.count(3), 0);
        due.is("grips(9)", cars.grips(9), 10);
        due.is("GRIP", cars.count(3), 9);
        due.is("grips(8)", cars.grips(8), 19);
    }

    private static void gripIsSo() {
        due.about(11, "-2: it is so");
        CliffCars cars = Scenes.busy();
        String was = Due.shape(cars);
        due.is("grips(3)", cars.grips(3), -2);
        due.same("grips() of what it is", cars, was);
        due.is("a new object", new CliffCars().grips(2), -2);
    }

    private static void gripsRefused() {
        due.about(11, "NONE: another v.");
        CliffCars cars = Scenes.busy();
        String was = Due.shape(cars);
        for (int v : new int[] {-1, 10, LEAST, GREATEST}) {
            due.is("grips(" + v + ")", cars.grips(v), -1);
        }
        due.same("grips() refused", cars, was);
    }

    // ---- promise 12

    private static void seatsFromLeastToGreatest() {
        due.about(12, "SEATS become v (1 .. 3): 10 and what they were");
        CliffCars cars = new CliffCars();
        due.is("seats(1)", cars.seats(1), 12);
        due.is("SEATS", cars.count(2), 1);
        due.is("seats(3)", cars.seats(3), 11);
        due.is("SEATS", cars.count(2), 3);
        due.is("seats(2)", cars.seats(2), 13);
    }

    private static void seatsAreSo() {
        due.about(12, "-2: they are so");
        CliffCars cars = Scenes.busy();
        String was = Due.shape(cars);
        due.is("seats(2)", cars.seats(2), -2);
        due.same("seats() of what they are", cars, was);
    }

    private static void seatsRefused() {
        due.about(12, "NONE: another v.");
        CliffCars cars = Scenes.busy();
        String was = Due.shape(cars);
        for (int v : new int[] {0, 4, -1, LEAST, GREATEST}) {
            due.is("seats(" + v + ")", cars.seats(v), -1);
        }
        due.same("seats() refused", cars, was);
    }

    // ---- promise 13

    private static void theLastOneLeaves() {
        due.about(13, "how many wait there then");
        CliffCars cars = Due.with("12345/67");
        due.is("the last of five", cars.leaves(0, 4), 4);
        due.waits("leaves(0, 4)", cars, "1234/67");
        due.is("the first of four", cars.leaves(0, 0), 3);
        due.waits("leaves(0, 0)", cars, "234/67");
        due.is("leaves(1, 1)", cars.leaves(1, 1), 1);
        due.is("leaves(1, 0)", cars.leaves(1, 0), 0);
        due.waits("nobody BELOW", cars, "234/");
    }

    private static void leavesRefused() {
        due.about(13, "NONE: none such.");
        CliffCars cars = Scenes.busy();
        String was = Due.shape(cars);
        for (int k : new int[] {3, 4, 5, -1, LEAST, GREATEST}) {
            due.is("leaves(0, " + k + ")", cars.leaves(0, k), -1);
            due.is("leaves(1, " + k + ")", cars.leaves(1, k), -1);
        }
        for (int side : new int[] {2, -1, LEAST, GREATEST}) {
            due.is("leaves(" + side + ", 0)", cars.leaves(side, 0), -1);
        }
        due.same("leaves() refused", cars, was);
        due.is("nobody waits", new CliffCars().leaves(0, 0), -1);
        due.is("party 5 of five", Due.with("12345").leaves(0, 5), -1);
    }

    // ---- promise 14

    private static void swapOfTheLastTwo() {
        due.about(14, "WEIGHT of the one that is k then");
        CliffCars cars = Due.with("12345/67");
        due.is("swaps(0, 3)", cars.swaps(0, 3), 5);
        due.waits("the last two", cars, "12354/67");
        due.is("swaps(1, 0)", cars.swaps(1, 0), 7);
        due.waits("both BELOW", cars, "12354/76");
    }

    private static void noneBehindIt() {
        due.about(14, "-2: there is none behind it");
        CliffCars cars = Scenes.busy();
        String was = Due.shape(cars);
        due.is("the last ABOVE", cars.swaps(0, 2), -2);
        due.is("the last BELOW", cars.swaps(1, 2), -2);
        due.same("swaps() of the last", cars, was);
        due.is("the only one", Due.with("/5").swaps(1, 0), -2);
        due.is("the last of five", Due.with("12345").swaps(0, 4), -2);
    }

    private static void swapsRefused() {
        due.about(14, "NONE: none such.");
        CliffCars cars = Scenes.busy();
        String was = Due.shape(cars);
        for (int k : new int[] {3, 4, 5, -1, LEAST, GREATEST}) {
            due.is("swaps(0, " + k + ")", cars.swaps(0, k), -1);
            due.is("swaps(1, " + k + ")", cars.swaps(1, k), -1);
        }
        for (int side : new int[] {2, -1, LEAST, GREATEST}) {
            due.is("swaps(" + side + ", 0)", cars.swaps(side, 0), -1);
            due.is("swaps(" + side + ", 2)", cars.swaps(side, 2), -1);
        }
        due.same("swaps() refused", cars, was);
        due.is("nobody waits", new CliffCars().swaps(1, 0), -1);
    }

    // ---- promise 15

    private static void drainsFromOneTo99() {
        due.about(15, "n water (1 .. 99) is let out of CISTERN: CISTERN");
        CliffCars cars = new CliffCars();
        cars.runs(60);
        due.is("drains(1) of 200", cars.drains(1), 199);
        due.is("drains(99) of 199", cars.drains(99), 100);
        due.is("drains(99) of 100", cars.drains(99), 1);
        due.is("drains(1) of 1", cars.drains(1), 0);
    }

    private static void notSoMuchToDrain() {
        due.about(15, "-2: there is not so much");
        CliffCars cars = Scenes.busy();
        String was = Due.shape(cars);
        due.is("drains(21) of 20", cars.drains(21), -2);
        due.is("drains(99) of 20", cars.drains(99), -2);
        due.same("drains() of too much", cars, was);
        due.is("drains(20) of 20", cars.drains(20), 0);
        due.is("drains(1) of 0", cars.drains(1), -2);
    }

    private static void drainsRefused() {
        due.about(15, "NONE: another n.");
        CliffCars cars = Scenes.busy();
        String was = Due.shape(cars);
        for (int n : new int[] {0, -1, 100, LEAST, GREATEST}) {
            due.is("drains(" + n + ")", cars.drains(n), -1);
        }
        due.same("drains() refused", cars, was);
        CliffCars much = new CliffCars();
        much.runs(60);
        due.is("drains(100) of 200", much.drains(100), -1);
    }

    // ---- promise 16

    private static void day(CliffCars cars, String text, int want) {
        due.is("day() of " + text, Due.write(cars, text).day(), want);
        due.is("day() empties THE TEXT", cars.count(14), 0);
    }

    /** A day that can't stand does nothing, whatever stands ahead of the wrong sign. */
    private static void bad(String text, int place) {
        CliffCars cars = Scenes.busy();
        String was = Due.shape(cars);
        day(cars, text, -1 - place);
        due.same("day() of " + text, cars, was);
    }

    private static void emptyDay() {
        due.about(16, "(an empty one: nothing)");
        CliffCars cars = Due.with("531/427");
        day(cars, "", 0);
        due.row("none could not be", cars, 0, 20);
        due.is("what can be undone", cars.count(12), 0);
        due.waits("an empty day", cars, "531/427");
    }

    private static void signsBetween() {
        due.about(16, "ACTS one behind another, without signs between");
        bad("* *", 1);
        bad("g1,g2", 2);
        bad(" *", 0);
        day(Due.with("531/427"), "**", 2);
    }

    private static void minutesOfADay() {
        due.about(16, "n and a digit (runs())");
        CliffCars cars = new CliffCars();
        day(cars, "n0", 1);
        due.is("MINUTES", cars.count(8), 0);
        day(cars, "n9", 1);
        due.is("MINUTES", cars.count(8), 9);
        bad("n10", 2);
    }

    private static void gripsOfADay() {
        due.about(16, "g and a digit (grips())");
        CliffCars cars = new CliffCars();
        day(cars, "g0", 1);
        due.is("GRIP", cars.count(3), 0);
        day(cars, "g9", 1);
        due.is("GRIP", cars.count(3), 9);
    }

    private static void seatsOfADay() {
        due.about(16, "s and a digit 1 .. 3 (seats())");
        CliffCars cars = new CliffCars();
        day(cars, "s1", 1);
        due.is("SEATS", cars.count(2), 1);
        day(cars, "s3", 1);
        due.is("SEATS", cars.count(2), 3);
        bad("s0", 1);
        bad("s4", 1);
        bad("s9", 1);
        bad("g9s0", 3);
    }

    private static void leavesOfADay() {
        due.about(16, "l and two digits (leaves(): side, party)");
        CliffCars cars = Due.with("531/427");
        day(cars, "l01l10", 2);
        due.waits("the second ABOVE, the first BELOW", cars, "51/27");
        for (String text : new String[] {"l02", "l12", "l20", "l99", "l05"}) {
            day(cars, text, 0);
            due.row("none such", cars, 1, 20);
        }
    }

    private static void swapsOfADay() {
        due.about(16, "x and two digits (swaps())");
        CliffCars cars = Due.with("531/427");
        day(cars, "x01x10", 2);
        due.waits("the last ABOVE, the first BELOW", cars, "513/247");
        for (String text : new String[] {"x02", "x03", "x20", "x99"}) {
            day(cars, text, 0);
            due.row("none such, none behind it", cars, 1, 20);
        }
    }

    private static void drainsOfADay() {
        due.about(16, "o and two digits (drains())");
        CliffCars cars = new CliffCars();
        day(cars, "o01", 1);
        due.is("CISTERN", cars.count(4), 19);
        day(cars, "o00", 0);
        due.row("o00 can't be", cars, 1, 19);
        day(cars, "o20", 0);
        due.row("20 of 19", cars, 1, 19);
        cars.runs(60);
        day(cars, "o99", 1);
        due.is("CISTERN", cars.count(4), 100);
    }

    private static void dayStops() {
        due.about(16, "till one can't be (it answers below 0): how many were done");
        CliffCars cars = Due.with("531/427");
        day(cars, "g3g3s1", 1);
        due.is("GRIP", cars.count(3), 3);
        due.is("SEATS stay", cars.count(2), 2);
        day(cars, "***", 2);
        day(cars, "*n9", 0);
        due.is("MINUTES", cars.count(8), 2);
        CliffCars dry = Due.with("/99");
        day(dry, "o01*n9", 1);
        due.is("20 of 19, then no minute", dry.count(8), 0);
    }

    private static void rowOfADay() {
        due.about(16, "1 if one could not be, else 0; CISTERN then");
        CliffCars cars = Due.with("531/427");
        day(cars, "o05", 1);
        due.row("all were done", cars, 0, 15);
        day(cars, "o05g2", 1);
        due.row("the last one could not be", cars, 1, 10);
        day(cars, "g2o05", 0);
        due.row("the first one could not be", cars, 1, 10);
    }

    private static void signsThatAreNoDay() {
        due.about(16, "-1 - p: the sign at p can't stand there");
        bad("a", 0);
        bad("0", 0);
        bad("\0", 0);
        bad("*/", 1);
        bad("nn", 1);
        bad("g*", 1);
        bad("l*0", 1);
        bad("l0*", 2);
        bad("x:0", 1);
        bad("x0/", 2);
        bad("oo0", 1);
        bad("o0o", 2);
        bad("**G1", 2);
        bad("*l00N", 4);
    }

    private static void dayThatEndsTooEarly() {
        due.about(16, "its end, if it ends too early");
        for (String letter : new String[] {"n", "g", "s"}) {
            bad(letter, 1);
            bad("o01" + letter, 4);
        }
        for (String letter : new String[] {"l", "x", "o"}) {
            bad(letter, 1);
            bad(letter + "0", 2);
            bad("*" + letter + "1", 3);
        }
        bad("n0".repeat(29) + "*n", 60);
        bad("n0".repeat(29) + "l0", 60);
    }

    private static void dayOf60Signs() {
        due.about(16, "60, if it has more");
        day(new CliffCars(), "n0".repeat(30), 30);
        day(new CliffCars(), "n0".repeat(28) + "*o99", 28);
        bad("n0".repeat(30) + "*", 60);
        bad("n0".repeat(40), 60);
    }

    private static void dayOfMoreThan60Signs() {
        due.about(16, "and the first 60 could go on or end");
        bad("n0".repeat(30) + "?", 60);
        bad("n0".repeat(29) + "*n0", 60);
        bad("n0".repeat(29) + "*n?", 60);
        bad("n0".repeat(29) + "*l00", 60);
        bad("n0".repeat(29) + "*l0?", 60);
        bad("n0".repeat(29) + "l00", 60);
        bad("n0".repeat(29) + "l0?", 60);
        bad("n0".repeat(29) + "*?0", 59);
        bad("n0".repeat(29) + "l?0", 59);
        bad("n0".repeat(29) + "?00", 58);
        bad("?" + "*".repeat(79), 0);
    }

    private static void nothingIsDoneOfABadDay() {
        due.about(16, "nothing is done then");
        bad("o05*?", 4);
        bad("g9s1n", 5);
        bad("*".repeat(79), 60);
    }

    // ---- promise 17

    private static void twelveAreKept() {
        due.about(17, "of 12 that are kept, the latest ones");
        CliffCars cars = new CliffCars();
        for (int i = 1; i <= 13; i++) {
            cars.drains(1);
            due.is("what can be undone", cars.count(12), Math.min(12, i));
        }
        for (int left = 11; left >= 0; left--) {
            due.is("undo()", cars.undo(), left);
            due.is("CISTERN", cars.count(4), 19 - left);
        }
        due.is("the first one stays done", cars.count(4), 19);
        due.is("undo()", cars.undo(), -1);
    }

    private static void actsThatWereNotDone() {
        due.about(17, "such as were done");
        CliffCars cars = Due.with("/99");
        cars.drains(1);
        cars.trip();
        cars.sends(0, 0);
        cars.sends(0, 3);
        cars.sends(1, 0);
        cars.runs(61);
        cars.grips(2);
        cars.grips(10);
        cars.seats(2);
        cars.seats(0);
        cars.leaves(0, 0);
        cars.swaps(1, 1);
        cars.swaps(0, 0);
        cars.drains(20);
        cars.drains(0);
        day(cars, "g2", 0);
        day(cars, "?", -1);
        due.is("what can be undone", cars.count(12), 1);
        due.is("undo()", cars.undo(), 0);
        due.is("CISTERN", cars.count(4), 20);
    }

    private static void eachActCanBeUndone() {
        due.about(17, "The latest trip(), sends(), runs(), grips(), seats(), leaves(), swaps(), drains(), day()");
        CliffCars cars = Due.with("531/427");
        String[] was = new String[10];
        for (int act = 0; act < 9; act++) {
            was[act] = withoutRow(cars);
            doAct(cars, act);
            due.is("what can be undone", cars.count(12), act + 1);
            due.is("act " + act + " changes something", withoutRow(cars).equals(was[act]), false);
        }
        for (int act = 8; act >= 0; act--) {
            due.is("undo()", cars.undo(), act);
            due.is("as ahead of act " + act, withoutRow(cars).equals(was[act]), true);
        }
    }

    /** What undo() brings back: all that is seen but what can be undone, and the ROW. */
    private static String withoutRow(CliffCars cars) {
        String shape = Due.shape(cars);
        String seen = shape.substring(0, shape.indexOf(" ROW"));
        return seen.substring(0, seen.lastIndexOf(' '));
    }

    private static void doAct(CliffCars cars, int act) {
        switch (act) {
            case 0 -> cars.grips(7);
            case 1 -> cars.swaps(0, 0);
            case 2 -> cars.drains(1);
            case 3 -> cars.sends(1, 0);
            case 4 -> cars.leaves(1, 2);
            case 5 -> cars.seats(1);
            case 6 -> cars.trip();
            case 7 -> Due.write(cars, "o01g0").day();
            default -> cars.runs(3);
        }
    }

    private static void runsOfNoMinute() {
        due.about(17, "runs(0), too");
        CliffCars cars = new CliffCars();
        cars.drains(5);
        cars.runs(0);
        due.is("what can be undone", cars.count(12), 2);
        due.is("undo() of runs(0)", cars.undo(), 1);
        due.is("CISTERN", cars.count(4), 15);
    }

    private static void dayIsUndoneAsOne() {
        due.about(17, "day() of which one ACT was done, as one");
        CliffCars cars = Due.with("531/427");
        day(cars, "", 0);
        day(cars, "g2g5", 0);
        due.is("none of them was done", cars.count(12), 0);
        day(cars, "g5g5g6", 1);
        due.is("one of them was done", cars.count(12), 1);
        day(cars, "o05s1**", 4);
        due.is("as one", cars.count(12), 2);
        due.is("undo()", cars.undo(), 1);
        due.waits("ahead of the day", cars, "531/427");
        due.is("CISTERN", cars.count(4), 20);
        due.is("SEATS", cars.count(2), 2);
        due.is("GRIP", cars.count(3), 5);
    }

    private static void undoLeavesTheRule() {
        due.about(17, "all but THE RULE, what was heard or seen, is as ahead of it");
        CliffCars cars = Due.with("531/427");
        cars.trip();
        Due.write(cars, "7").rule();
        cars.heard(0, 1);
        cars.saw(9, 1, 1);
        due.is("undo()", cars.undo(), 0);
        due.is("SPRING", cars.count(9), 7);
        due.is("what was heard", cars.count(10), 1);
        due.is("what was seen", cars.count(11), 1);
        due.waits("ahead of it", cars, "531/427");
        int[] counts = {2, 2, 20, 0, 0, 0, 0};
        for (int what = 2; what <= 8; what++) {
            due.is("count(" + what + ")", cars.count(what), counts[what - 2]);
        }
    }

    private static void howManyAreLeft() {
        due.about(17, "how many are left that can be");
        CliffCars cars = new CliffCars();
        cars.grips(3);
        cars.grips(4);
        due.is("undo() of two", cars.undo(), 1);
        due.is("undo() of one", cars.undo(), 0);
        due.is("GRIP", cars.count(3), 2);
    }

    private static void undoOfNone() {
        due.about(17, "Refused: none.");
        CliffCars cars = Due.with("531/427");
        cars.needs();
        String was = Due.shape(cars);
        due.is("undo() of a new object", cars.undo(), -1);
        due.same("undo() refused", cars, was);
        cars.trip();
        cars.undo();
        due.is("what was undone can't be once more", cars.undo(), -1);
    }

    private static void whatForgets() {
        due.about(17, "parties() and again() forget them, if they are not refused");
        CliffCars cars = Due.with("1");
        cars.keep(0);
        cars.grips(5);
        cars.again(1);
        cars.again(2);
        Due.write(cars, "x").parties();
        Due.write(cars, "123456").parties();
        Due.write(cars, "/").parties();
        due.is("refused", cars.count(12), 1);
        Due.write(cars, "2").parties();
        due.is("behind parties()", cars.count(12), 0);
        due.is("undo()", cars.undo(), -1);
        due.is("GRIP stays", cars.count(3), 5);
        cars.grips(6);
        cars.again(0);
        due.is("behind again()", cars.count(12), 0);
        due.is("undo()", cars.undo(), -1);
        due.is("GRIP as it was kept", cars.count(3), 2);
    }

    private static void emptyPartiesForgetNothing() {
        due.about(17, "an empty parties() does not");
        CliffCars cars = Due.with("1");
        cars.grips(5);
        due.is("parties() of none", cars.parties(), 0);
        due.is("what can be undone", cars.count(12), 1);
        due.is("undo()", cars.undo(), 0);
        due.is("GRIP", cars.count(3), 2);
    }
}
