/** Promises 27 to 33: who is to board. */
public final class BoardingTest {
    private static final Due due = new Due("BoardingTest");

    public static void main(String[] args) {
        most();
        mostOfAsMany();
        least();
        leastOfAsGood();
        freely();
        best();
        alike();
        parts();
        spare();
        due.finish();
    }

    private static void most() {
        CliffCars cars = Due.with("1/9");
        due.is("most(-1)", cars.most(-1), -1);
        due.is("most(100)", cars.most(100), -1);
        due.is("most(0)", cars.most(0), -2);
        due.row("no ROW yet", cars);
        due.is("one alone from above needs 1", cars.most(1), 1);
        due.row("most(1)", cars, 1, 1, 0);
        due.is("most(9)", cars.most(9), 1);
        due.is("both need 10", cars.most(10), 2);
        due.row("most(10)", cars, 10, 1, 1);
        cars.drains(20);
        due.is("CISTERN aside", cars.most(99), 2);
        due.is("most(0)", cars.most(0), -2);
        due.row("the ROW stays", cars, 10, 1, 1);
        due.is("nobody waits", new CliffCars().most(99), -2);

        CliffCars full = Scenes.by("11111/11111", 3, 0);
        due.is("SEATS at most", full.most(0), 6);
        due.row("SEATS at most", full, 0, 7, 7);
        full.seats(1);
        due.is("SEATS at most", full.most(99), 2);
        CliffCars below = Due.with("/9999");
        due.is("from below alone", below.most(20), 2);
        due.row("from below alone", below, 20, 0, 3);
        due.is("from below alone", below.most(19), 1);
        due.row("from below alone", below, 11, 0, 1);
        due.is("from below alone", below.most(10), -2);
    }

    private static void mostOfAsMany() {
        CliffCars leastWater = Scenes.by("19/21", 1, 2);
        due.is("of as many those that need the least", leastWater.most(50), 2);
        due.row("9 for 1 or 2: none", leastWater, 0, 2, 1);
        CliffCars leastRow = Scenes.by("99/11", 1, 0);
        due.is("then the least row", leastRow.most(0), 2);
        due.row("then the least row", leastRow, 0, 1, 1);
        CliffCars equals = Scenes.by("1133/5", 2, 0);
        due.is("most(99)", equals.most(99), 3);
        due.row("3 and 3 for 5", equals, 0, 12, 1);
        CliffCars nearly = Scenes.by("1143/9", 2, 0);
        due.is("most(99)", nearly.most(99), 3);
        due.row("4 and 3 for 9", nearly, 2, 12, 1);
        due.is("most(1)", nearly.most(1), 2);
        due.row("from above alone", nearly, 0, 3, 0);
    }

    private static void least() {
        CliffCars cars = Due.with("1/9");
        due.is("least(0)", cars.least(0), -1);
        due.is("least(6)", cars.least(6), -1);
        due.is("least(3)", cars.least(3), -2);
        due.row("no ROW yet", cars);
        due.is("least(1)", cars.least(1), 10);
        due.row("least(1)", cars, 1, 1);
        due.is("each by itself: 1 and 11", cars.least(2), 12);
        due.row("least(2)", cars, 0, 1);
        due.is("least(3)", cars.least(3), -2);
        due.row("the ROW stays", cars, 0, 1);
        cars.drains(20);
        due.is("CISTERN aside", cars.least(1), 10);
        due.is("nobody waits", new CliffCars().least(1), -2);

        CliffCars seats = Scenes.by("99999/1", 1, 2);
        due.is("5 of one SEAT each", seats.least(4), -2);
        due.is("5 of one SEAT each", seats.least(5), 0);
        due.row("the first one alone", seats, 1, 0);
        seats.seats(3);
        due.is("5 of 3 SEATS", seats.least(1), -2);
        due.is("5 of 3 SEATS", seats.least(2), 0);
        due.row("two, then three and one", seats, 3, 0);

        CliffCars full = Scenes.by("12345/54321", 2, 0);
        due.is("2 SEATS", full.least(2), -2);
        due.is("like for like", full.least(3), 0);
        due.row("the first one and its like", full, 1, 16);
        due.is("like for like", full.least(5), 0);
        due.row("like for like", full, 1, 16);
        CliffCars heavy = Scenes.by("11111/99999", 1, 9);
        due.is("5 times 17", heavy.least(5), 85);
        due.row("5 times 17", heavy, 1, 1);
        CliffCars below = Scenes.by("/99999", 3, 9);
        due.is("45 and 2 times 9", below.least(2), 63);
        due.row("two, then three", below, 0, 3);
        due.is("45 and 5 times 9", below.least(5), 90);
        due.row("the first one", below, 0, 1);
    }

    private static void leastOfAsGood() {
        CliffCars cars = Due.with("531/427");
        due.is("least(2)", cars.least(2), 8);
        due.row("least(2)", cars, 1, 1);
        due.is("least(3)", cars.least(3), 10);
        due.row("least(3)", cars, 0, 1);
        CliffCars empty = Scenes.by("9/1", 2, 0);
        due.is("ABOVE 0 is the least", empty.least(2), 1);
        due.row("ABOVE 0 is the least", empty, 0, 1);
        CliffCars emptyBelow = Scenes.by("119/8", 1, 0);
        due.is("1 and 1 alone, 9 and 8", emptyBelow.least(3), 0);
        due.row("1 and 1 alone, 9 and 8", emptyBelow, 1, 0);
        CliffCars allBelowStay = Scenes.by("1199/22222", 3, 0);
        due.is("1 and 1 alone, 9 and three, 9 and two", allBelowStay.least(4), 0);
        due.row("1 and 1 alone, 9 and three, 9 and two", allBelowStay, 1, 0);
        CliffCars twoSeats = Scenes.by("911/333", 2, 0);
        due.is("9 can't take three", twoSeats.least(3), 2);
        due.row("9 takes two", twoSeats, 1, 3);
        CliffCars notFirst = Scenes.by("19/8", 1, 0);
        due.is("1 alone, 9 and 8", notFirst.least(2), 0);
        due.row("any order is as good", notFirst, 1, 0);
    }

    private static void freely() {
        CliffCars none = new CliffCars();
        none.done();
        due.is("nobody waits", none.freely(), 0);
        due.row("nothing for 0", none);
        CliffCars cars = Due.with("531/427");
        cars.needs();
        due.is("by none", cars.freely(), -2);
        due.row("the ROW stays", cars, 8, 6);
        due.is("below alone", Due.with("/1").freely(), -2);
        due.is("below alone, GRIP 0", Scenes.by("/1", 2, 0).freely(), -2);

        CliffCars one = Due.with("99/1");
        due.is("one TRIP", one.freely(), 1);
        due.row("one TRIP", one, 3, 1);
        CliffCars equal = Scenes.by("9/9", 2, 0);
        due.is("as heavy", equal.freely(), 1);
        due.row("as heavy", equal, 1, 1);
        equal.grips(1);
        due.is("1 lighter", equal.freely(), -2);
        CliffCars two = Scenes.by("9999/1111", 2, 0);
        due.is("two TRIPS", two.freely(), 2);
        due.row("two TRIPS", two, 3, 3);
        CliffCars three = Scenes.by("99999", 3, 9);
        due.is("two TRIPS", three.freely(), 2);
        due.row("the first two, then three", three, 3, 0);
        CliffCars five = Scenes.by("11111", 1, 1);
        due.is("five TRIPS", five.freely(), 5);
        due.row("five TRIPS", five, 1, 0);
        CliffCars chosen = Scenes.by("19/8", 1, 0);
        due.is("9 and 8, 1 alone", chosen.freely(), 2);
        due.row("of as good ones the least row", chosen, 1, 0);
        chosen.grips(1);
        due.is("9 and 8 and 1", chosen.freely(), 2);
        chosen.grips(2);
        due.is("1 needs 1", chosen.freely(), -2);
        chosen.seats(2);
        due.is("1 and 9 for 8 and 2", chosen.freely(), 1);
        due.row("together", chosen, 3, 1);
    }

    private static void best() {
        CliffCars none = Due.with("1/1");
        none.needs();
        due.is("no side has two", none.best(), -2);
        due.row("the ROW stays", none, 1, 1);
        due.is("nobody waits", new CliffCars().best(), -2);

        CliffCars both = Scenes.by("19/91", 1, 0);
        due.is("either side", both.best(), 0);
        due.row("of as good ones the least row", both, 0, 0, 1, 8);
        due.waits("nothing changes", both, "19/91");
        CliffCars below = Scenes.by("9/19", 1, 0);
        due.is("9 for 9, then 1", below.best(), 1);
        due.row("9 for 9, then 1", below, 1, 0, 1, 9);
        CliffCars worse = Scenes.by("9/91", 1, 0);
        due.is("it is worse", worse.best(), 9);
        due.row("it is worse", worse, 1, 0, 1, 1);
        CliffCars far = Scenes.by("119/9", 1, 0);
        due.is("the first and the third", far.best(), 0);
        due.row("the first and the third", far, 0, 0, 2, 8);
        CliffCars second = Scenes.by("1119/19", 2, 0);
        due.is("8 as it is, 1 by a 9 in the first TRIP", second.best(), 0);
        due.row("of as good ones the least row", second, 0, 0, 3, 8);
        CliffCars same = Scenes.by("53/42", 2, 2);
        due.is("all in one TRIP", same.best(), 0);
        due.row("all in one TRIP", same, 0, 0, 1, 0);
        CliffCars five = Scenes.by("12345/11111", 1, 1);
        due.is("five TRIPS", five.best(), 1);
        due.row("five TRIPS", five, 0, 0, 1, 1);
        CliffCars last = Scenes.by("11112/11112", 1, 0);
        due.is("the fifth TRIP", last.best(), 0);
        due.row("the fifth TRIP", last, 0, 0, 1, 0);
        last.grips(9);
        due.is("the fifth TRIP", last.best(), 45);
        due.row("the fifth TRIP", last, 0, 0, 1, 45);
        CliffCars dry = Scenes.by("/99", 1, 9);
        dry.drains(20);
        due.is("CISTERN aside", dry.best(), 36);
        due.row("CISTERN aside", dry, 1, 0, 1, 36);
    }

    private static void alike() {
        CliffCars none = Due.with("1/2");
        none.needs();
        due.is("none", none.alike(), 0);
        due.row("nothing without", none);
        due.is("one side", Due.with("12").alike(), 0);
        CliffCars cars = Due.with("531/427");
        due.is("4, 6, 9", cars.alike(), 3);
        due.row("9", cars, 9, 7, 6);
        CliffCars single = Due.with("1/1");
        due.is("one of 1", single.alike(), 1);
        due.row("one of 1", single, 1, 1, 1);
        CliffCars ones = Due.with("11/11");
        due.is("4 of 1, one of 2", ones.alike(), 5);
        due.row("2", ones, 2, 3, 3);
        CliffCars above = Due.with("33/3");
        due.is("either", above.alike(), 2);
        due.row("of as heavy ones the least row", above, 3, 1, 1);
        CliffCars below = Due.with("3/33");
        due.is("either", below.alike(), 2);
        due.row("of as heavy ones the least row", below, 3, 1, 1);
        CliffCars crossed = Due.with("45/54");
        due.is("4, 5, 9", crossed.alike(), 3);
        due.row("9", crossed, 9, 3, 3);
        CliffCars full = Due.with("11111/11111");
        full.seats(1);
        due.is("SEATS aside: 25 + 100 + 100 + 25 + 1", full.alike(), 251);
        due.row("5", full, 5, 31, 31);
    }

    private static void parts() {
        CliffCars none = new CliffCars();
        due.is("parts(2)", none.parts(2), -1);
        due.is("parts(-1)", none.parts(-1), -1);
        due.row("no ROW yet", none);
        due.is("nobody ABOVE", none.parts(0), 0);
        due.row("nobody ABOVE", none, 0, 0);
        CliffCars cars = Due.with("531/427");
        due.is("5 and 4", cars.parts(0), 1);
        due.row("5 and 4", cars, 1, 5);
        due.is("6 and 7", cars.parts(1), 1);
        due.row("of as good ones the least", cars, 3, 6);
        due.is("parts(2)", cars.parts(2), -1);
        due.row("the ROW stays", cars, 3, 6);
        CliffCars one = Due.with("5/99999");
        due.is("one", one.parts(0), 5);
        due.row("the least part is nobody", one, 0, 0);
        due.is("18 and 27", one.parts(1), 9);
        due.row("two", one, 3, 18);
        CliffCars two = Due.with("/44");
        due.is("nobody ABOVE", two.parts(0), 0);
        due.is("like", two.parts(1), 0);
        due.row("like", two, 1, 4);
    }

    private static void spare() {
        CliffCars none = new CliffCars();
        due.is("nobody waits", none.spare(), 0);
        due.row("nobody waits", none, 0, 0);
        CliffCars cars = Due.with("531/427");
        due.is("none", cars.spare(), 0);
        due.row("none of two", cars, 0, 2);
        CliffCars two = Scenes.by("99/1", 1, 2);
        due.is("6 and 7", two.spare(), 13);
        due.row("two of two", two, 2, 2);
        CliffCars five = Scenes.by("99999/99999", 1, 0);
        due.is("as heavy", five.spare(), 0);
        due.row("five TRIPS", five, 0, 5);
        five.leaves(1, 0);
        due.is("the last one alone", five.spare(), 9);
        due.row("the last one alone", five, 1, 5);
        CliffCars some = Scenes.by("919/181", 1, 0);
        due.is("8, none, 8", some.spare(), 16);
        due.row("two of three", some, 2, 3);
        some.grips(8);
        due.is("as heavy", some.spare(), 0);
        due.row("as heavy is not more", some, 0, 3);
        some.drains(20);
        some.grips(7);
        due.is("CISTERN aside", some.spare(), 2);
        due.row("CISTERN aside", some, 2, 3);
    }
}
