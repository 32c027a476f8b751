/** Promises 27 to 34: each sentence that names an edge has a test of its own. */
public final class EdgeBoardingTest {
    private static final Due due = new Due("EdgeBoardingTest");
    private static final int LEAST = Integer.MIN_VALUE;
    private static final int GREATEST = Integer.MAX_VALUE;

    public static void main(String[] args) {
        due.runEach(EdgeBoardingTest.class);
    }

    // ---- promise 27

    private static void mostForJustSoMuch() {
        due.about(27, "for v water (0 .. 99) at most");
        CliffCars cars = Due.with("1/9");
        due.is("10 of 9", cars.most(9), 1);
        due.row("1 alone", cars, 1, 1, 0);
        due.is("10 of 10", cars.most(10), 2);
        due.row("both", cars, 10, 1, 1);
        CliffCars none = Due.with("9/1");
        due.is("most(0)", none.most(0), 2);
        due.row("most(0)", none, 0, 1, 1);
        CliffCars all = Scenes.by("/999", 3, 9);
        due.is("most(99)", all.most(99), 3);
        due.row("most(99)", all, 36, 0, 7);
        due.is("35 of 36", all.most(35), 2);
    }

    private static void mostWithoutCistern() {
        due.about(27, "CISTERN aside");
        CliffCars cars = Due.with("1/9");
        cars.drains(20);
        due.is("most(10)", cars.most(10), 2);
    }

    private static void mostForTheLeast() {
        due.about(27, "of as many those that need the least");
        CliffCars cars = Scenes.by("19/21", 1, 2);
        due.is("most(50)", cars.most(50), 2);
        due.row("9 takes 2 or 1 for none", cars, 0, 2, 1);
    }

    private static void mostOfTheLeastRow() {
        due.about(27, "then the least row: ABOVE, BELOW");
        CliffCars cars = Scenes.by("99/11", 1, 0);
        due.is("most(0)", cars.most(0), 2);
        due.row("four pairs are as good", cars, 0, 1, 1);
        CliffCars above = Scenes.by("1133/5", 2, 0);
        due.is("most(1)", above.most(1), 3);
        due.row("none of 6 for 5 but 3 and 3", above, 0, 12, 1);
    }

    private static void mostForNobody() {
        due.about(27, "-2: none do");
        CliffCars cars = Due.with("1/9");
        cars.needs();
        String was = Due.shape(cars);
        due.is("1 of 0", cars.most(0), -2);
        due.same("none do", cars, was);
        CliffCars nobody = new CliffCars();
        nobody.grips(0);
        due.is("two empty groups are no such", nobody.most(99), -2);
    }

    private static void mostRefused() {
        due.about(27, "NONE: another v.");
        CliffCars cars = Scenes.busy();
        String was = Due.shape(cars);
        for (int v : new int[] {-1, 100, LEAST, GREATEST}) {
            due.is("most(" + v + ")", cars.most(v), -1);
        }
        due.same("most() refused", cars, was);
    }

    // ---- promise 28

    private static void leastOfOneAndOfFive() {
        due.about(28, "t TRIPS (1 .. 5) need that carry all that wait");
        CliffCars one = Due.with("1/9");
        due.is("least(1)", one.least(1), 10);
        due.row("least(1)", one, 1, 1);
        CliffCars five = Scenes.by("11111/99999", 1, 9);
        due.is("5 times 17", five.least(5), 85);
        due.row("5 times 17", five, 1, 1);
        CliffCars most = Scenes.by("/99999", 1, 9);
        due.is("5 times 18", most.least(5), 90);
    }

    private static void noEmptyTrip() {
        due.about(28, "each of two groups (one of which is not empty, at least)");
        CliffCars cars = Scenes.by("1/9", 2, 0);
        due.is("each by itself", cars.least(2), 9);
        due.row("each by itself", cars, 0, 1);
        due.is("two parties in three", cars.least(3), -2);
        due.is("one party in two", Due.with("9").least(2), -2);
    }

    private static void noMoreThanSeatsInEachTrip() {
        due.about(28, "each of two groups");
        CliffCars cars = Scenes.by("911/333", 2, 0);
        due.is("9 takes two of three, 1 takes the third", cars.least(3), 2);
        due.row("9 takes two of three, 1 takes the third", cars, 1, 3);
        CliffCars three = Scenes.by("119/333", 3, 0);
        due.is("9 takes all three", three.least(3), 0);
        due.row("1 goes alone first", three, 1, 0);
        CliffCars two = Scenes.by("119/333", 2, 0);
        due.is("9 takes two of three, 1 takes the third", two.least(3), 2);
        due.row("1 goes alone first", two, 1, 0);
    }

    private static void leastWithoutCistern() {
        due.about(28, "CISTERN and minutes aside");
        CliffCars cars = Due.with("1/9", "0");
        cars.drains(20);
        due.is("least(1)", cars.least(1), 10);
        due.is("least(2)", cars.least(2), 12);
    }

    private static void leastOfTheLeastRow() {
        due.about(28, "of as good ones the least row: ABOVE, BELOW");
        CliffCars above = Scenes.by("9/1", 2, 0);
        due.is("9 alone, 1 alone", above.least(2), 1);
        due.row("ABOVE 0 is the least", above, 0, 1);
        CliffCars below = Scenes.by("99/11", 1, 0);
        due.is("either takes either", below.least(2), 0);
        due.row("the first ones", below, 1, 1);
        CliffCars later = Scenes.by("19/8", 1, 0);
        due.is("1 alone, 9 and 8", later.least(2), 0);
        due.row("1 alone comes first", later, 1, 0);
    }

    private static void noSuchTrips() {
        due.about(28, "-2: there are no t such TRIPS");
        CliffCars few = Scenes.by("99999/1", 1, 2);
        few.needs();
        String was = Due.shape(few);
        due.is("five of one SEAT in 4", few.least(4), -2);
        due.same("too few TRIPS", few, was);
        due.is("five of one SEAT in 5", few.least(5), 0);
        due.is("four of 3 SEATS in 1", Scenes.by("/9999", 3, 2).least(1), -2);
        for (int t = 1; t <= 5; t++) {
            due.is("nobody waits", new CliffCars().least(t), -2);
        }
    }

    private static void leastRefused() {
        due.about(28, "NONE: another t.");
        CliffCars cars = Scenes.busy();
        String was = Due.shape(cars);
        for (int t : new int[] {0, 6, -1, LEAST, GREATEST}) {
            due.is("least(" + t + ")", cars.least(t), -1);
        }
        due.same("least() refused", cars, was);
    }

    // ---- promise 29

    private static void freelyNobody() {
        due.about(29, "(0: nobody waits)");
        CliffCars cars = new CliffCars();
        cars.grips(9);
        due.is("freely()", cars.freely(), 0);
    }

    private static void nothingForNoTrip() {
        due.about(29, "nothing for 0");
        CliffCars cars = new CliffCars();
        cars.later(0);
        cars.freely();
        due.row("the ROW is empty", cars);
    }

    private static void freelyWithNoWaterAtAll() {
        due.about(29, "with no WATER at all");
        CliffCars cars = Scenes.by("9/8", 1, 1);
        due.is("9 for 8 and 1", cars.freely(), 1);
        due.row("9 for 8 and 1", cars, 1, 1);
        cars.grips(2);
        due.is("10 for 9", cars.freely(), -2);
        CliffCars five = Scenes.by("11111", 1, 1);
        due.is("five TRIPS", five.freely(), 5);
        due.row("five TRIPS", five, 1, 0);
    }

    private static void freelyOfTheLeastRow() {
        due.about(29, "of as good ones the least row");
        CliffCars cars = Scenes.by("99999", 3, 9);
        due.is("two TRIPS", cars.freely(), 2);
        due.row("the first two, then three", cars, 3, 0);
        CliffCars below = Scenes.by("999/12", 2, 0);
        due.is("two TRIPS", below.freely(), 2);
        due.row("the first alone", below, 1, 0);
    }

    private static void freelyByNone() {
        due.about(29, "-2: by none.");
        CliffCars cars = Scenes.busy();
        String was = Due.shape(cars);
        due.is("9 for 13 and 3", cars.freely(), -2);
        due.same("by none", cars, was);
        due.is("nobody ABOVE", Scenes.by("/1", 2, 0).freely(), -2);
        due.is("1 for GRIP 2", Due.with("1").freely(), -2);
    }

    // ---- promise 30

    private static void anyTwo() {
        due.about(30, "(any two)");
        CliffCars cars = Scenes.by("119/9", 1, 0);
        due.is("the first and the third", cars.best(), 0);
        due.row("the first and the third", cars, 0, 0, 2, 8);
        CliffCars five = Scenes.by("9/88882", 1, 0);
        due.is("8 and 8 leave it as it is", five.best(), 26);
        due.row("8 and 8 leave it as it is", five, 1, 0, 1, 26);
        CliffCars last = Scenes.by("119/19", 1, 0);
        due.is("9 for 9", last.best(), 0);
        due.row("the second and the third", last, 0, 1, 2, 8);
    }

    private static void tillNobodyWaits() {
        due.about(30, "WATER of TRIPS one behind the other, each THE NEXT TRIP, till nobody waits, together is the least");
        CliffCars five = Scenes.by("/11111", 1, 9);
        due.is("5 times 10", five.best(), 50);
        due.row("5 times 10", five, 1, 0, 1, 50);
        CliffCars alone = Scenes.by("1/22222", 1, 0);
        due.is("1, then 4 times 2", alone.best(), 9);
        CliffCars light = Scenes.by("11111", 1, 2);
        due.is("5 times 1", light.best(), 5);
    }

    private static void lesserFirst() {
        due.about(30, "the side, the two, the lesser first (of as good ones the least row)");
        CliffCars both = Scenes.by("19/91", 1, 0);
        due.is("either side", both.best(), 0);
        due.row("ABOVE is the least", both, 0, 0, 1, 8);
        CliffCars same = Scenes.by("12345", 3, 0);
        due.is("all are as good", same.best(), 0);
        due.row("all are as good", same, 0, 0, 1, 0);
    }

    private static void itMayBeWorse() {
        due.about(30, "WATER together as it is");
        CliffCars cars = Scenes.by("9/91", 1, 0);
        due.is("it is worse", cars.best(), 9);
        due.row("1 as it is", cars, 1, 0, 1, 1);
        due.waits("they do not change places", cars, "9/91");
    }

    private static void noSideHasTwo() {
        due.about(30, "-2: no side has two.");
        CliffCars cars = Due.with("1/1");
        cars.needs();
        String was = Due.shape(cars);
        due.is("one each", cars.best(), -2);
        due.same("no side has two", cars, was);
        due.is("nobody waits", new CliffCars().best(), -2);
        due.is("two BELOW alone", Scenes.by("/11", 2, 2).best(), 4);
        due.is("two ABOVE alone", Scenes.by("11", 1, 2).best(), 2);
    }

    // ---- promise 31

    private static void neitherIsEmpty() {
        due.about(31, "(one ABOVE, one BELOW, neither empty)");
        due.is("one of 1", Due.with("1/1").alike(), 1);
        due.is("nobody BELOW", Due.with("12").alike(), 0);
        due.is("nobody ABOVE", Due.with("/12").alike(), 0);
        due.is("nobody waits", new CliffCars().alike(), 0);
        due.is("all sets of five", Due.with("11111/11111").alike(), 251);
    }

    private static void setsHaveAParty() {
        due.about(31, "(none of no party)");
        CliffCars cars = Due.with("1/2");
        due.is("0 and 0 do not count", cars.alike(), 0);
    }

    private static void heaviestOfTheLeastRow() {
        due.about(31, "of as heavy ones the least row");
        CliffCars above = Due.with("335/3");
        due.is("either 3", above.alike(), 2);
        due.row("the first 3", above, 3, 1, 1);
        CliffCars below = Due.with("3/533");
        due.is("either 3", below.alike(), 2);
        due.row("the first 3", below, 3, 1, 2);
        CliffCars parts = Due.with("213/3");
        due.is("3 as 2 and 1, 3 alone", parts.alike(), 2);
        due.row("2 and 1 are set 3, 3 alone is 4", parts, 3, 3, 1);
    }

    private static void nothingWithoutAPair() {
        due.about(31, "nothing without");
        CliffCars cars = Due.with("1/2");
        cars.needs();
        due.is("none", cars.alike(), 0);
        due.row("the ROW is empty", cars);
    }

    // ---- promise 32

    private static void partsOfNobody() {
        due.about(32, "Parties of a side are parted in two");
        CliffCars cars = Due.with("5");
        due.is("nobody BELOW", cars.parts(1), 0);
        due.row("nobody BELOW", cars, 0, 0);
        due.is("one ABOVE", cars.parts(0), 5);
        due.row("nobody, and 5", cars, 0, 0);
    }

    private static void leastPart() {
        due.about(32, "(of as good ones the least)");
        CliffCars cars = Due.with("44/531");
        due.is("4 and 4", cars.parts(0), 0);
        due.row("the first one", cars, 1, 4);
        due.is("5 and 4", cars.parts(1), 1);
        due.row("5 is set 1, 3 and 1 are set 6", cars, 1, 5);
        CliffCars heavy = Due.with("1119");
        due.is("3 and 9", heavy.parts(0), 6);
        due.row("1, 1, 1 are set 7, 9 is set 8", heavy, 7, 3);
    }

    private static void partsRefused() {
        due.about(32, "NONE: another side.");
        CliffCars cars = Scenes.busy();
        String was = Due.shape(cars);
        for (int side : new int[] {2, -1, LEAST, GREATEST}) {
            due.is("parts(" + side + ")", cars.parts(side), -1);
        }
        due.same("parts() refused", cars, was);
    }

    // ---- promise 33

    private static void noneOfOneThatDoesNot() {
        due.about(33, "weighs more than the lower one and GRIP, added up (0 of one that does not)");
        CliffCars cars = Scenes.by("919/181", 1, 0);
        due.is("8, 0 in place of -7, 8", cars.spare(), 16);
        due.row("two of three", cars, 2, 3);
        cars.grips(8);
        due.is("as heavy is not more", cars.spare(), 0);
        due.row("none of three", cars, 0, 3);
        cars.grips(7);
        due.is("1, 0, 1", cars.spare(), 2);
        due.row("two of three", cars, 2, 3);
    }

    private static void spareTillNobodyWaits() {
        due.about(33, "of each THE NEXT TRIP, one behind the other, till nobody waits");
        CliffCars cars = Scenes.by("12345", 1, 0);
        due.is("all five", cars.spare(), 15);
        due.row("all five", cars, 5, 5);
        CliffCars uneven = Scenes.by("9/443", 2, 0);
        due.is("9 for 4 and 4, none for 3", uneven.spare(), 1);
        due.row("one of two", uneven, 1, 2);
        CliffCars dry = Scenes.by("9/99999", 1, 0);
        dry.drains(20);
        due.is("CISTERN aside", dry.spare(), 0);
        due.row("CISTERN aside", dry, 0, 5);
    }

    private static void spareOfNobody() {
        due.about(33, "of how many TRIPS it is so, of how many in all");
        CliffCars none = new CliffCars();
        none.later(0);
        due.is("nobody waits", none.spare(), 0);
        due.row("no TRIP", none, 0, 0);
        CliffCars five = Scenes.by("99999/9999", 1, 0);
        due.is("the last one alone", five.spare(), 9);
        due.row("one of five", five, 1, 5);
        CliffCars below = Scenes.by("/99999", 1, 0);
        due.is("nobody ABOVE", below.spare(), 0);
        due.row("none of five", below, 0, 5);
    }

    // ---- promise 34

    private static void odds(CliffCars cars, int p, int v, long upper, long lower) {
        String call = "odds(" + p + ", " + v + ")";
        due.is(call, cars.odds(p, v), 0);
        due.row(call, cars, upper, lower);
    }

    private static void tenthsFrom0To10() {
        due.about(34, "turns up by p tenths (0 .. 10)");
        CliffCars cars = Due.with("1/9");
        odds(cars, 0, 1, 0, 1);
        odds(cars, 0, 2, 1, 1);
        odds(cars, 10, 9, 0, 1);
        odds(cars, 10, 10, 1, 1);
        odds(cars, 1, 1, 9, 100);
        odds(cars, 9, 10, 91, 100);
        odds(cars, 1, 2, 9, 10);
        odds(cars, 1, 10, 91, 100);
    }

    private static void othersDoNotTakeItsPlace() {
        due.about(34, "others do not take its place");
        CliffCars cars = Scenes.by("19", 1, 2);
        odds(cars, 5, 0, 0, 1);
        odds(cars, 5, 1, 1, 2);
        CliffCars six = Scenes.by("1119/1119", 3, 2);
        odds(six, 10, 1, 0, 1);
        odds(six, 10, 2, 1, 1);
    }

    private static void waterFrom0To99() {
        due.about(34, "need no more than v water (0 .. 99)");
        CliffCars cars = Due.with("/9");
        odds(cars, 2, 0, 0, 1);
        odds(cars, 2, 1, 0, 1);
        odds(cars, 2, 2, 4, 5);
        odds(cars, 2, 10, 4, 5);
        odds(cars, 2, 11, 1, 1);
        odds(cars, 2, 99, 1, 1);
    }

    private static void noneNeedsGrip() {
        due.about(34, "two empty ones: GRIP");
        CliffCars nobody = new CliffCars();
        odds(nobody, 5, 1, 0, 1);
        odds(nobody, 5, 2, 1, 1);
        nobody.grips(0);
        odds(nobody, 5, 0, 1, 1);
    }

    private static void lowestTerms() {
        due.about(34, "Fractions are told in lowest terms, upper and lower number (0 by 1)");
        CliffCars cars = Due.with("2");
        odds(cars, 5, 0, 1, 2);
        odds(cars, 4, 0, 2, 5);
        odds(cars, 10, 0, 1, 1);
        odds(cars, 0, 0, 0, 1);
        odds(cars, 3, 0, 3, 10);
        odds(Due.with("2222"), 5, 0, 3, 4);
        odds(Scenes.by("222/222", 3, 0), 5, 0, 21, 32);
    }

    private static void oddsRefused() {
        due.about(34, "NONE: others.");
        CliffCars cars = Scenes.busy();
        String was = Due.shape(cars);
        for (int p : new int[] {-1, 11, LEAST, GREATEST}) {
            due.is("odds(" + p + ", 5)", cars.odds(p, 5), -1);
        }
        for (int v : new int[] {-1, 100, LEAST, GREATEST}) {
            due.is("odds(5, " + v + ")", cars.odds(5, v), -1);
        }
        due.is("odds(11, 100)", cars.odds(11, 100), -1);
        due.same("odds() refused", cars, was);
    }
}
