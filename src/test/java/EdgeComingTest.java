/** Promises 18 to 26: each sentence that names an edge has a test of its own. */
public final class EdgeComingTest {
    private static final Due due = new Due("EdgeComingTest");
    private static final int LEAST = Integer.MIN_VALUE;
    private static final int GREATEST = Integer.MAX_VALUE;

    public static void main(String[] args) {
        due.runEach(EdgeComingTest.class);
    }

    // ---- promise 18

    private static void rowOfNeeds() {
        due.about(18, "the ROW: WEIGHTS of its upper group, of its lower group");
        CliffCars above = Due.with("1");
        due.is("from above alone", above.needs(), 1);
        due.row("from above alone", above, 1, 0);
        CliffCars below = Due.with("/99");
        below.drains(20);
        due.is("more than there is", below.needs(), 20);
        due.row("from below alone", below, 0, 18);
    }

    private static void needsOfNobody() {
        due.about(18, "-2: nobody waits.");
        CliffCars cars = Due.with("531");
        cars.seats(3);
        cars.trip();
        String was = Due.shape(cars);
        due.is("needs()", cars.needs(), -2);
        due.same("needs() of nobody", cars, was);
    }

    // ---- promise 19

    private static void laterFromNoneTo99() {
        due.about(19, "CISTERN behind n minutes (0 .. 99)");
        CliffCars cars = Due.with("531/427");
        due.is("later(0)", cars.later(0), 20);
        due.row("later(0)", cars, 0, 0, 3, 3);
        due.is("later(99)", cars.later(99), 20 + 99 * 3 - 8);
        due.row("later(99)", cars, 9, 13, 0, 0);
        cars.trip();
        due.is("later(0)", cars.later(0), 23);
        due.row("DOWN, UP of all", cars, 8, 6, 1, 1);
    }

    private static void whoWaitsLater() {
        due.about(19, "the ROW: DOWN, UP then, how many wait ABOVE, BELOW then");
        CliffCars cars = Due.with("12345/9");
        due.is("20 less 8, and 3", cars.later(1), 15);
        due.row("3 ABOVE, nobody BELOW", cars, 3, 9, 3, 0);
        CliffCars stuck = Scenes.neverGoes();
        due.is("later(99)", stuck.later(99), 20);
        due.row("nobody ABOVE, 2 BELOW", stuck, 0, 0, 0, 2);
    }

    private static void laterRefused() {
        due.about(19, "NONE: another n.");
        CliffCars cars = Scenes.busy();
        String was = Due.shape(cars);
        for (int n : new int[] {-1, 100, LEAST, GREATEST}) {
            due.is("later(" + n + ")", cars.later(n), -1);
        }
        due.same("later() refused", cars, was);
    }

    // ---- promise 20

    private static void doneAtOnce() {
        due.about(20, "nobody waits first: how many");
        CliffCars none = new CliffCars();
        due.is("behind none", none.done(), 0);
        due.row("behind none", none, 20, 0);
        CliffCars cars = Due.with("531/427");
        cars.trip();
        due.is("behind one", cars.done(), 1);
        due.row("TRIPS of these minutes", cars, 18, 1);
    }

    private static void doneBehind99() {
        due.about(20, "Behind how many minutes (0 .. 99)");
        CliffCars cars = Scenes.goesInMinute99();
        due.is("done()", cars.done(), 99);
        due.row("behind 99", cars, 0, 1);
    }

    private static void notDone() {
        due.about(20, "-2: behind none of these.");
        CliffCars cars = Scenes.goesInMinute100();
        cars.needs();
        String was = Due.shape(cars);
        due.is("behind 100", cars.done(), -2);
        due.same("behind 100", cars, was);
        due.is("never", Scenes.neverGoes().done(), -2);
    }

    // ---- promise 21

    private static void dryBehind99() {
        due.about(21, "Behind how many minutes (0 .. 99)");
        CliffCars cars = Due.with("/55", "n=6");
        cars.drains(15);
        cars.grips(9);
        due.is("5 to 19 behind 98, then 0", cars.dry(5), 99);
        due.row("behind 99", cars, 0);
        due.is("5 is less than 6", cars.dry(6), 0);
        due.row("behind none", cars, 5);
    }

    private static void dryOfLeastAndGreatest() {
        due.about(21, "CISTERN is less than v (0 .. 999) first");
        CliffCars cars = new CliffCars();
        due.is("dry(0)", cars.dry(0), -2);
        due.is("as much is not less", cars.dry(20), -2);
        due.is("dry(21)", cars.dry(21), 0);
        due.is("dry(999)", cars.dry(999), 0);
        due.row("dry(999)", cars, 20);
        Due.write(cars, "9").rule();
        cars.runs(60);
        cars.runs(60);
        due.is("999 is not less than 999", cars.dry(999), -2);
        cars.drains(1);
        due.is("998 is", cars.dry(999), 0);
        due.row("998 is", cars, 998);
    }

    private static void neverDry() {
        due.about(21, "-2: behind none of these");
        CliffCars cars = Due.with("/65", "n=0");
        cars.drains(15);
        cars.grips(9);
        cars.needs();
        String was = Due.shape(cars);
        due.is("5 to 20 behind 99, less behind 100", cars.dry(5), -2);
        due.is("dry(0)", cars.dry(0), -2);
        due.same("never dry", cars, was);
    }

    private static void dryRefused() {
        due.about(21, "NONE: another v.");
        CliffCars cars = Scenes.busy();
        String was = Due.shape(cars);
        for (int v : new int[] {-1, 1000, LEAST, GREATEST}) {
            due.is("dry(" + v + ")", cars.dry(v), -1);
        }
        due.same("dry() refused", cars, was);
    }

    // ---- promise 22

    private static void firstAndLastMinute() {
        due.about(22, "The minute (1 .. 99) in which a party that waits now is carried");
        CliffCars first = Due.with("531/427");
        due.is("when(0, 1)", first.when(0, 1), 1);
        due.row("when(0, 1)", first, 0);
        due.is("when(1, 2)", first.when(1, 2), 2);
        CliffCars last = Scenes.goesInMinute99();
        due.is("in minute 99", last.when(1, 0), 99);
        due.row("in minute 99", last, 98);
    }

    private static void minutesTillThen() {
        due.about(22, "how many minutes there was no TRIP till then");
        CliffCars cars = Scenes.by("/9999", 1, 2);
        cars.runs(1);
        due.is("the first: 12 in minute 1", cars.when(1, 0), 1);
        due.row("the first", cars, 0);
        due.is("the second: 4, 7, 10, 13", cars.when(1, 1), 5);
        due.row("the second", cars, 3);
    }

    private static void inNoneOfThem() {
        due.about(22, "-2: in none of these");
        CliffCars cars = Scenes.goesInMinute100();
        cars.needs();
        String was = Due.shape(cars);
        due.is("in minute 100", cars.when(1, 0), -2);
        due.same("in minute 100", cars, was);
        due.is("never", Scenes.neverGoes().when(1, 1), -2);
    }

    private static void whenRefused() {
        due.about(22, "NONE: none such.");
        CliffCars cars = Scenes.busy();
        String was = Due.shape(cars);
        for (int k : new int[] {3, 4, 5, -1, LEAST, GREATEST}) {
            due.is("when(0, " + k + ")", cars.when(0, k), -1);
            due.is("when(1, " + k + ")", cars.when(1, k), -1);
        }
        for (int side : new int[] {2, -1, LEAST, GREATEST}) {
            due.is("when(" + side + ", 0)", cars.when(side, 0), -1);
        }
        due.same("when() refused", cars, was);
        due.is("nobody waits", new CliffCars().when(0, 0), -1);
    }

    // ---- promise 23

    private static void leastCistern() {
        due.about(23, "The least CISTERN (0 .. 999, in place of its own now)");
        CliffCars none = Due.with("9");
        due.is("no water", none.enough(), 0);
        due.row("one TRIP", none, 1);
        CliffCars cars = Due.with("/9", "9");
        cars.runs(0);
        cars.drains(20);
        due.is("9 and 2, whatever there is", cars.enough(), 11);
        cars.undo();
        due.is("9 and 2, whatever there is", cars.enough(), 11);
        due.is("CISTERN stays", cars.count(4), 20);
    }

    /** By 9 the cistern is empty behind the first TRIP and gets 9; by 10 to 17 it gets none. */
    private static void tripEachMinute() {
        due.about(23, "by one TRIP each minute, till nobody waits");
        CliffCars cars = Due.with("/99", "9*(c=0)");
        cars.seats(1);
        cars.grips(0);
        due.is("enough()", cars.enough(), 9);
        due.row("two TRIPS", cars, 2);
        CliffCars slow = Due.with("/99", "1");
        slow.seats(1);
        slow.grips(0);
        due.is("17 and 1 of two times 9", slow.enough(), 17);
    }

    private static void tripsFromNowOn() {
        due.about(23, "the ROW: how many TRIPS");
        CliffCars cars = Due.with("/99999", "0");
        cars.seats(1);
        due.is("5 times 11", cars.enough(), 55);
        due.row("5 TRIPS", cars, 5);
        cars.trip();
        due.is("4 times 11", cars.enough(), 44);
        due.row("4 TRIPS, the one that was aside", cars, 4);
    }

    /** 5 TRIPS need 5 times 18 at most, so that no object can answer -2. */
    private static void someCisternIsAlwaysEnough() {
        due.about(23, "-2: by none");
        CliffCars cars = Due.with("/99999", "0");
        cars.seats(1);
        cars.grips(9);
        due.is("enough()", cars.enough(), 90);
        due.row("5 TRIPS", cars, 5);
    }

    private static void enoughForNobody() {
        due.about(23, "-3: nobody waits.");
        CliffCars cars = new CliffCars();
        cars.later(1);
        String was = Due.shape(cars);
        due.is("enough()", cars.enough(), -3);
        due.same("enough() for nobody", cars, was);
    }

    // ---- promise 24

    private static void addedUp() {
        due.about(24, "added up (each: the minute, as when()): how many; the ROW: the longest");
        CliffCars cars = Due.with("531/427");
        due.is("4 in minute 1, 2 in minute 2", cars.waiting(), 8);
        due.row("the longest", cars, 2);
        CliffCars last = Scenes.goesInMinute99();
        due.is("in minute 99", last.waiting(), 99);
        due.row("in minute 99", last, 99);
    }

    private static void oneIsNotIn99() {
        due.about(24, "-2: one is not in 99");
        CliffCars cars = Due.with("9/19", "0");
        cars.seats(1);
        cars.drains(20);
        cars.needs();
        String was = Due.shape(cars);
        due.is("9 and 1 go in minute 1, 9 never", cars.waiting(), -2);
        due.same("waiting() too long", cars, was);
        due.is("in minute 100", Scenes.goesInMinute100().waiting(), -2);
    }

    private static void nobodyIsWaiting() {
        due.about(24, "-3: nobody waits.");
        CliffCars cars = new CliffCars();
        cars.later(1);
        String was = Due.shape(cars);
        due.is("waiting()", cars.waiting(), -3);
        due.same("waiting() of nobody", cars, was);
    }

    // ---- promise 25

    private static void leastAndGreatestGrip() {
        due.about(25, "The greatest GRIP (0 .. 9, in place of its own)");
        CliffCars cars = Due.with("/9", "0");
        due.is("18 of 20", cars.holds(1), 9);
        due.row("by all ten", cars, 10);
        cars.drains(11);
        due.is("9 of 9", cars.holds(1), 0);
        due.row("by one", cars, 1);
        due.is("GRIP stays", cars.count(3), 2);
        CliffCars only = Due.with("/9", "(g=9)*9");
        only.drains(20);
        due.is("by 9 alone water comes", only.holds(3), 9);
        due.row("by one", only, 1);
    }

    /** Two drops come in seven minutes: 17 are there behind 59, and 18 behind 63. */
    private static void holdsFromNoneTo60Minutes() {
        due.about(25, "by which nobody waits behind n minutes (0 .. 60)");
        due.is("nobody waits", new CliffCars().holds(0), 9);
        due.is("somebody waits", Due.with("9").holds(0), -2);
        CliffCars cars = Due.with("/98", "(n=6)+(n=2)");
        cars.drains(20);
        due.is("behind 60", cars.holds(60), 0);
        due.row("by one", cars, 1);
        due.is("behind 59", cars.holds(59), -2);
    }

    private static void byHowManyOfTheTen() {
        due.about(25, "by how many of the ten nobody does");
        CliffCars cars = Due.with("/9", "0");
        cars.drains(8);
        due.is("12 for 9 and 3", cars.holds(1), 3);
        due.row("by 0 to 3", cars, 4);
        CliffCars gap = Due.with("/9", "(g=9)*9");
        gap.drains(10);
        due.is("by 0, 1, and by 9 water comes", gap.holds(2), 9);
        due.row("by three of them", gap, 3);
    }

    private static void byNoGrip() {
        due.about(25, "-2: by none");
        CliffCars cars = Due.with("/9", "0");
        cars.drains(12);
        cars.needs();
        String was = Due.shape(cars);
        due.is("9 of 8", cars.holds(60), -2);
        due.same("by none", cars, was);
    }

    private static void holdsRefused() {
        due.about(25, "NONE: another n.");
        CliffCars cars = Scenes.busy();
        String was = Due.shape(cars);
        for (int n : new int[] {-1, 61, LEAST, GREATEST}) {
            due.is("holds(" + n + ")", cars.holds(n), -1);
        }
        due.same("holds() refused", cars, was);
    }

    // ---- promise 26

    private static void soonestBySeatsOfTheirOwn() {
        due.about(26, "The SEATS (1 .. 3, in place of their own)");
        for (int seats = 1; seats <= 3; seats++) {
            CliffCars cars = Scenes.by("531/427", seats, 2);
            due.is("soonest()", cars.soonest(), 3);
            due.row("soonest()", cars, 3, 2, 1);
            due.is("SEATS stay", cars.count(2), seats);
        }
    }

    private static void soonestWithin99() {
        due.about(26, "by which nobody waits the soonest (within 99 minutes");
        CliffCars cars = Scenes.goesInMinute99();
        due.is("behind 99", cars.soonest(), 1);
        due.row("behind 99", cars, 99, 99, 99);
        due.is("behind 100", Scenes.goesInMinute100().soonest(), -2);
    }

    private static void fewestOfEqualSeats() {
        due.about(26, "of equal ones the fewest");
        CliffCars one = Due.with("1");
        due.is("by each", one.soonest(), 1);
        due.row("by each", one, 1, 1, 1);
        CliffCars two = Due.with("1111");
        due.is("by 2 and by 3", two.soonest(), 2);
        due.row("by 2 and by 3", two, 4, 2, 2);
    }

    private static void byNoneOf99() {
        due.about(26, "(100: by none of 99)");
        CliffCars cars = Due.with("/99", "0");
        due.is("by 1 the second never goes", cars.soonest(), 2);
        due.row("by 1 the second never goes", cars, 100, 1, 1);
        CliffCars more = Due.with("9/999", "9*(d=1)");
        more.drains(2);
        due.is("by 3 it is 20 of 18, and no water comes", more.soonest(), 2);
        due.row("by 3 it is 20 of 18, and no water comes", more, 3, 2, 100);
    }

    private static void soonestByNone() {
        due.about(26, "-2: by none");
        CliffCars cars = Scenes.neverGoes();
        cars.drains(3);
        String was = Due.shape(cars);
        due.is("18 of 17, 27", cars.soonest(), -2);
        due.same("by none", cars, was);
    }

    private static void soonestForNobody() {
        due.about(26, "-3: nobody waits.");
        CliffCars cars = new CliffCars();
        cars.later(1);
        String was = Due.shape(cars);
        due.is("soonest()", cars.soonest(), -3);
        due.same("soonest() for nobody", cars, was);
    }
}
