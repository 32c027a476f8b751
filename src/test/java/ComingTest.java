/** Promises 18 to 26: what is to come, RUNNING. */
public final class ComingTest {
    private static final Due due = new Due("ComingTest");

    public static void main(String[] args) {
        needs();
        later();
        done();
        dry();
        when();
        enough();
        enoughIsTheLeast();
        waiting();
        holds();
        soonest();
        questionsChangeNothing();
        due.finish();
    }

    private static void needs() {
        due.is("nobody waits", new CliffCars().needs(), -2);
        CliffCars cars = Due.with("531/427");
        due.is("needs()", cars.needs(), 0);
        due.row("needs()", cars, 8, 6);
        cars.grips(9);
        due.is("needs()", cars.needs(), 7);
        cars.seats(3);
        due.is("needs()", cars.needs(), 13);
        due.row("needs()", cars, 9, 13);
        cars.trip();
        due.is("nobody waits", cars.needs(), -2);
        due.row("the ROW stays", cars, 13, 10);
        CliffCars above = Due.with("1");
        due.is("from above alone", above.needs(), 1);
        due.row("from above alone", above, 1, 0);
        CliffCars below = Due.with("/99");
        below.drains(20);
        due.is("more than there is", below.needs(), 20);
        due.row("from below alone", below, 0, 18);
    }

    private static void later() {
        CliffCars cars = Due.with("531/427");
        due.is("later(-1)", cars.later(-1), -1);
        due.is("later(100)", cars.later(100), -1);
        due.row("no ROW yet", cars);
        due.is("later(0)", cars.later(0), 20);
        due.row("later(0)", cars, 0, 0, 3, 3);
        due.is("later(1)", cars.later(1), 23);
        due.row("later(1)", cars, 8, 6, 1, 1);
        due.is("later(99)", cars.later(99), 20 + 99 * 3 - 8);
        due.row("later(99)", cars, 9, 13, 0, 0);
        cars.trip();
        due.is("later(1)", cars.later(1), 18);
        due.row("DOWN, UP of all", cars, 9, 13, 0, 0);
        due.is("later(100)", cars.later(100), -1);
        due.row("the ROW stays", cars, 9, 13, 0, 0);
        CliffCars stuck = Scenes.neverGoes();
        due.is("27 of 20", stuck.later(50), 20);
        due.row("stuck", stuck, 0, 0, 0, 2);
        CliffCars full = new CliffCars();
        Due.write(full, "9").rule();
        full.runs(60);
        due.is("999 at most", full.later(60), 999);
    }

    private static void done() {
        CliffCars none = new CliffCars();
        due.is("nobody waits", none.done(), 0);
        due.row("nobody waits", none, 20, 0);
        CliffCars cars = Due.with("531/427");
        due.is("done()", cars.done(), 2);
        due.row("done()", cars, 18, 2);
        cars.trip();
        due.is("done()", cars.done(), 1);
        due.row("TRIPS of these minutes", cars, 18, 1);
        CliffCars slow = Due.with("/999");
        slow.runs(1);
        due.is("3, 6, 9, then at 12", slow.done(), 4);
        due.row("12 less 11 and 3", slow, 4, 1);

        CliffCars last = Scenes.goesInMinute99();
        due.is("behind 99", last.done(), 99);
        due.row("behind 99", last, 0, 1);
        due.is("behind 100", Scenes.goesInMinute100().done(), -2);
        CliffCars stuck = Scenes.neverGoes();
        due.is("behind none", stuck.done(), -2);
        due.row("the ROW stays", stuck, 0, 18);
    }

    private static void dry() {
        CliffCars cars = Due.with("531/427");
        due.is("dry(-1)", cars.dry(-1), -1);
        due.is("dry(1000)", cars.dry(1000), -1);
        due.is("dry(0)", cars.dry(0), -2);
        due.row("no ROW yet", cars);
        due.is("dry(20)", cars.dry(20), 2);
        due.row("dry(20)", cars, 18);
        due.is("dry(21)", cars.dry(21), 0);
        due.row("dry(21)", cars, 20);
        due.is("dry(999)", cars.dry(999), 0);
        due.is("dry(18)", cars.dry(18), -2);
        due.row("the ROW stays", cars, 20);

        CliffCars last = Due.with("/55", "n=6");
        last.drains(15);
        last.grips(9);
        due.is("5 to 19 behind 98, then 0", last.dry(5), 99);
        due.row("behind 99", last, 0);
        CliffCars later = Due.with("/65", "n=0");
        later.drains(15);
        later.grips(9);
        due.is("5 to 20 behind 99", later.dry(5), -2);
        due.is("5 is less than 6", later.dry(6), 0);
    }

    private static void when() {
        CliffCars cars = Due.with("531/427");
        due.is("when(0, 3)", cars.when(0, 3), -1);
        due.is("when(1, 3)", cars.when(1, 3), -1);
        due.is("when(0, -1)", cars.when(0, -1), -1);
        due.is("when(2, 0)", cars.when(2, 0), -1);
        due.is("when(-1, 0)", cars.when(-1, 0), -1);
        for (int side = 0; side <= 1; side++) {
            for (int k = 0; k <= 2; k++) {
                due.is("when", cars.when(side, k), k < 2 ? 1 : 2);
                due.row("when", cars, 0);
            }
        }
        CliffCars slow = Due.with("/9999");
        slow.runs(1);
        due.is("it needs 20: 3, 6, .. 21", slow.when(1, 1), 7);
        due.row("six minutes without", slow, 6);
        slow.seats(1);
        due.is("the first: 3, 6, 9, 12", slow.when(1, 0), 4);
        due.row("the first", slow, 3);
        due.is("the second: 4, 7, 10, 13", slow.when(1, 1), 7 + 1);
        due.row("the second", slow, 6);

        CliffCars last = Scenes.goesInMinute99();
        due.is("in minute 99", last.when(1, 0), 99);
        due.row("in minute 99", last, 98);
        CliffCars later = Scenes.goesInMinute100();
        later.needs();
        due.is("in minute 100", later.when(1, 0), -2);
        due.row("the ROW stays", later, 0, 9);
    }

    private static void enough() {
        due.is("nobody waits", new CliffCars().enough(), -3);
        CliffCars cars = Due.with("531/427");
        due.is("0 first, then 8 of 3 more", cars.enough(), 5);
        due.row("two TRIPS", cars, 2);
        cars.seats(3);
        due.is("13 and 2 less 9", cars.enough(), 6);
        due.row("one TRIP", cars, 1);
        CliffCars free = Due.with("9");
        due.is("no water", free.enough(), 0);
        due.row("one TRIP", free, 1);
        CliffCars most = Due.with("/99999", "0");
        most.seats(1);
        most.grips(9);
        due.is("5 times 18", most.enough(), 90);
        due.row("5 times 18", most, 5);
        most.trip();
        due.is("TRIPS of these minutes alone", most.enough(), 72);
        due.row("4 times 18", most, 4);
    }

    /** By 9 the cistern is empty behind the first TRIP and gets 9; by 10 to 17 it gets none. */
    private static void enoughIsTheLeast() {
        CliffCars cars = Due.with("/99", "9*(c=0)");
        cars.seats(1);
        cars.grips(0);
        due.is("the least", cars.enough(), 9);
        due.row("two TRIPS", cars, 2);
        CliffCars reversed = Due.with("/99", "9*(c>0)");
        reversed.seats(1);
        reversed.grips(0);
        due.is("1 is left, and 9", reversed.enough(), 10);
    }

    private static void waiting() {
        due.is("nobody waits", new CliffCars().waiting(), -3);
        CliffCars cars = Due.with("531/427");
        due.is("4 in minute 1, 2 in minute 2", cars.waiting(), 8);
        due.row("the longest", cars, 2);
        CliffCars slow = Due.with("/999");
        slow.runs(1);
        due.is("waiting()", slow.waiting(), 4);
        due.row("the longest", slow, 4);
        CliffCars uneven = Due.with("1/9999");
        due.is("3 in minute 1; 4, 7, .. 22: 2 in minute 8", uneven.waiting(), 3 + 2 * 8);
        due.row("the longest", uneven, 8);

        CliffCars last = Scenes.goesInMinute99();
        due.is("in minute 99", last.waiting(), 99);
        due.row("in minute 99", last, 99);
        due.is("in minute 100", Scenes.goesInMinute100().waiting(), -2);
        CliffCars stuck = Scenes.neverGoes();
        due.is("never", stuck.waiting(), -2);
        due.row("the ROW stays", stuck, 0, 18);
    }

    private static void holds() {
        CliffCars none = new CliffCars();
        due.is("nobody waits", none.holds(0), 9);
        due.row("by all ten", none, 10);
        CliffCars cars = Due.with("531/427");
        due.is("holds(-1)", cars.holds(-1), -1);
        due.is("holds(61)", cars.holds(61), -1);
        cars.drains(15);
        due.is("holds(0)", cars.holds(0), -2);
        due.is("holds(1)", cars.holds(1), -2);
        due.row("no ROW yet", cars);
        due.is("by 0, 1, 2", cars.holds(2), 2);
        due.row("by 0, 1, 2", cars, 3);
        due.is("by 3: 5 - 1 + 3 + 3 are 10 of 9", cars.holds(3), 3);
        due.row("by 0 to 3", cars, 4);
        due.is("holds(60)", cars.holds(60), 9);
        due.row("by all ten", cars, 10);
        due.is("GRIP stays", cars.count(3), 2);

        CliffCars gap = Due.with("/9", "(g=9)*9");
        gap.drains(20);
        due.is("by 9 alone water comes", gap.holds(3), 9);
        due.row("by one", gap, 1);
        due.is("18 are there behind 2, not yet gone", gap.holds(2), -2);
        due.row("the ROW stays", gap, 1);
    }

    private static void soonest() {
        due.is("nobody waits", new CliffCars().soonest(), -3);
        CliffCars cars = Due.with("531/427");
        due.is("soonest()", cars.soonest(), 3);
        due.row("soonest()", cars, 3, 2, 1);
        due.is("SEATS stay", cars.count(2), 2);
        CliffCars one = Due.with("1");
        due.is("of equal ones the fewest", one.soonest(), 1);
        due.row("of equal ones the fewest", one, 1, 1, 1);
        CliffCars two = Due.with("11");
        due.is("of equal ones the fewest", two.soonest(), 2);
        due.row("of equal ones the fewest", two, 2, 1, 1);
        CliffCars four = Due.with("1111");
        due.is("3 SEATS at most", four.soonest(), 2);
        due.row("3 SEATS at most", four, 4, 2, 2);
        CliffCars stuckByOne = Due.with("/99", "0");
        due.is("by 1 the second never goes", stuckByOne.soonest(), 2);
        due.row("100: by none", stuckByOne, 100, 1, 1);
        CliffCars stuck = Scenes.neverGoes();
        stuck.drains(3);
        due.is("by none", stuck.soonest(), -2);
        due.row("the ROW stays", stuck, 0, 18);
        CliffCars last = Scenes.goesInMinute99();
        due.is("behind 99", last.soonest(), 1);
        due.row("behind 99", last, 99, 99, 99);
        due.is("behind 100", Scenes.goesInMinute100().soonest(), -2);
    }

    private static void questionsChangeNothing() {
        CliffCars cars = Due.with("531/427", "c/9+u");
        Due.write(cars, "abc");
        cars.trip();
        int[] was = new int[15];
        for (int what = 0; what < 15; what++) {
            was[what] = cars.count(what);
        }
        cars.needs();
        cars.later(50);
        cars.done();
        cars.dry(9);
        cars.when(1, 0);
        cars.enough();
        cars.waiting();
        cars.holds(20);
        cars.soonest();
        cars.most(20);
        cars.least(1);
        cars.freely();
        cars.best();
        cars.alike();
        cars.parts(1);
        cars.spare();
        cars.odds(5, 5);
        cars.fits();
        cars.asks();
        cars.laws();
        cars.looks();
        cars.pails(100);
        cars.rests(9);
        cars.years(7, 60);
        for (int what = 0; what < 15; what++) {
            if (what != 13) {
                due.is("count(" + what + ") behind questions", cars.count(what), was[what]);
            }
        }
        due.waits("behind questions", cars, "1/7");
        cars.end(0);
        cars.law();
        due.waits("behind law()", cars, "1/7");
        due.is("MINUTES", cars.count(8), 1);
    }
}
