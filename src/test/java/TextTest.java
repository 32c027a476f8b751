/** Promises 1 to 7: a new object, THE TEXT, parties, THE RULE, sheets. */
public final class TextTest {
    private static final Due due = new Due("TextTest");

    public static void main(String[] args) {
        newObject();
        signs();
        ends();
        partiesThatCome();
        partiesThatCannotStand();
        partiesWithoutRoom();
        rulesThatStand();
        rulesThatCannotStand();
        ruleLimits();
        ruleStaysWhenRefused();
        partyThrows();
        sheets();
        sheetsRefused();
        sheetAndUndo();
        due.finish();
    }

    private static void newObject() {
        CliffCars cars = new CliffCars();
        int[] counts = {0, 0, 2, 2, 20, 0, 0, 0, 0, 3, 0, 0, 0, 0, 0};
        for (int what = 0; what < counts.length; what++) {
            due.is("count(" + what + ") of a new object", cars.count(what), counts[what]);
        }
        due.row("a new object", cars);
        due.is("NONE", CliffCars.NONE, -1);
    }

    private static void signs() {
        CliffCars cars = new CliffCars();
        for (int n = 4; n <= 80; n += 4) {
            due.is("sign", cars.sign(0x31313131), n);
        }
        due.is("sign behind 80", cars.sign(0x31313131), -1);
        due.is("count(14)", cars.count(14), 80);
        due.is("end(77)", cars.end(77), true);
        due.is("sign behind 77", cars.sign(0x31313131), -1);
        due.is("end(76)", cars.end(76), true);
        due.is("sign behind 76", cars.sign(0x31313131), 80);

        CliffCars highest = new CliffCars();
        highest.sign(0x31322F33);
        due.is("parties() of 12/3", highest.parties(), 3);
        due.waits("the highest byte first", highest, "12/3");
        highest.sign(0xB1313131);
        due.is("a sign above 127 is no digit", highest.parties(), -1);
    }

    private static void ends() {
        CliffCars cars = new CliffCars();
        due.is("end(0) of none", cars.end(0), true);
        due.is("end(1) of none", cars.end(1), false);
        due.is("end(-1)", cars.end(-1), false);
        cars.sign(0x31323334);
        due.is("end(5) of 4", cars.end(5), false);
        due.is("end(4) of 4", cars.end(4), true);
        due.is("end(-1) of 4", cars.end(-1), false);
        due.is("count(14)", cars.count(14), 4);
        due.is("end(2)", cars.end(2), true);
        due.is("end(3) of 2", cars.end(3), false);
        due.is("sign", cars.sign(0x2F353637), 6);
        due.is("parties()", cars.parties(), 5);
        due.waits("12/567", cars, "12/567");
        due.is("end(-2147483648)", cars.end(Integer.MIN_VALUE), false);
    }

    private static void come(CliffCars cars, String text, int want) {
        due.is("parties() of " + text, Due.write(cars, text).parties(), want);
        due.is("THE TEXT behind parties()", cars.count(14), 0);
    }

    private static void partiesThatCome() {
        CliffCars cars = new CliffCars();
        come(cars, "", 0);
        come(cars, "7", 1);
        due.waits("7", cars, "7/");
        come(cars, "/3", 1);
        come(cars, "12/5", 3);
        due.waits("they come behind", cars, "712/35");
        come(new CliffCars(), "12345/98765", 10);

        CliffCars forgetting = Due.with("1");
        forgetting.grips(5);
        come(forgetting, "", 0);
        due.is("an empty parties() forgets nothing", forgetting.count(12), 1);
        come(forgetting, "x", -1);
        due.is("a refused parties() forgets nothing", forgetting.count(12), 1);
        come(forgetting, "2", 1);
        due.is("parties() forget what could be undone", forgetting.count(12), 0);
        due.is("undo()", forgetting.undo(), -1);
        due.is("GRIP", forgetting.count(3), 5);

        CliffCars told = Due.with("1");
        told.needs();
        come(told, "2", 1);
        due.row("the ROW stays with parties()", told, 1, 0);
    }

    private static void partiesThatCannotStand() {
        CliffCars cars = new CliffCars();
        come(cars, "0", -1);
        come(cars, " 1", -1);
        come(cars, "10", -2);
        come(cars, "/", -2);
        come(cars, "//", -2);
        come(cars, "/0", -2);
        come(cars, "1/2/", -4);
        come(cars, "1/", -3);
        come(cars, "12345/", -7);
        come(cars, "1/2:", -4);
        come(cars, "12a", -3);
        due.waits("nobody comes, if one can't", cars, "/");
    }

    private static void partiesWithoutRoom() {
        CliffCars cars = new CliffCars();
        come(cars, "123456", -6);
        come(cars, "/123456", -7);
        come(cars, "12345/123456", -12);
        come(cars, "1".repeat(80), -6);
        come(cars, "1234/12", 6);
        come(cars, "12", -2);
        come(cars, "1/1234", -6);
        come(cars, "12/", -2);
        due.waits("none of them came", cars, "1234/12");
        come(cars, "9/789", 4);
        come(cars, "1", -1);
        come(cars, "/1", -2);
        come(cars, "/", -2);
        due.waits("full", cars, "12349/12789");
    }

    /** SPRING by a rule where 5 and 3 wait above, 4 below, GRIP 2, CISTERN 20, no TRIP, no MINUTE. */
    private static void spring(String rule, int want) {
        CliffCars cars = Due.with("53/4");
        due.is("rule() of " + rule, Due.write(cars, rule).rule(), 0);
        due.is("SPRING of " + rule, cars.count(9), want);
        due.is("THE TEXT behind rule()", cars.count(14), 0);
    }

    private static void rulesThatStand() {
        spring("", 3);
        spring("0", 0);
        spring("7", 7);
        spring("007", 7);
        spring("999", 9);
        spring("-5", 0);
        spring("--5", 5);
        spring("---5", 0);
        spring("2--5", 7);
        spring("2*-3+9", 3);
        spring("9-3-2", 4);
        spring("9-(3-2)", 8);
        spring("1+2*3", 7);
        spring("8/2*2", 8);
        spring("8/(2*2)", 2);
        spring("7/2", 3);
        spring("9-7/-2", 9);
        spring("5-7/-2", 8);
        spring("5+-7/2", 2);
        spring("4/0+1", 1);
        spring("4/(2-2)", 0);
        spring("1<2", 1);
        spring("2<1", 0);
        spring("2<2", 0);
        spring("2>1", 1);
        spring("1>2", 0);
        spring("2=2", 1);
        spring("2=3", 0);
        spring("1+1=2", 1);
        spring("3+(1<2)*4", 7);
        spring("(1<2)<3", 1);
        spring("(3>2)=(2>1)", 1);
        spring("((((5))))", 5);
        spring("(((1)))+(((1)))", 2);
        spring("-(2-5)", 3);
        spring("-(-(-(-4)))", 4);
        spring("u", 2);
        spring("d", 1);
        spring("w", 8);
        spring("g", 2);
        spring("c", 9);
        spring("c-15", 5);
        spring("n", 0);
        spring("t", 0);
        spring("u+d*g", 4);
        spring("999*999*999*999/999/999/999", 0);
        spring("(999*999*999*999<0)+(999*999*999<0)", 1);

        CliffCars cars = new CliffCars();
        Due.write(cars, "n").rule();
        for (int minute = 0; minute < 9; minute++) {
            due.is("n is MINUTES by 7", cars.count(9), minute % 7);
            cars.runs(1);
        }
        CliffCars trips = Due.with("11111");
        Due.write(trips, "t").rule();
        trips.seats(1);
        trips.grips(0);
        for (int i = 0; i < 5; i++) {
            due.is("t is TRIPS by 5", trips.count(9), i);
            trips.trip();
        }
        due.is("t of 5 TRIPS", trips.count(9), 0);
        due.is("TRIPS", trips.count(7), 5);
    }

    private static void bad(String rule, int place) {
        CliffCars cars = Due.with("53/4");
        due.is("rule() of " + rule, Due.write(cars, rule).rule(), -1 - place);
        due.is("THE TEXT behind rule()", cars.count(14), 0);
        due.is("SPRING stays", cars.count(9), 3);
        due.is("law() of " + rule, Due.write(cars, rule).law(), -10000 - place);
        due.is("THE TEXT behind law()", cars.count(14), 0);
    }

    private static void rulesThatCannotStand() {
        bad("x", 0);
        bad(" ", 0);
        bad("1 ", 1);
        bad("+1", 0);
        bad("*", 0);
        bad(")", 0);
        bad("-", 1);
        bad("1+", 2);
        bad("1+*2", 2);
        bad("1*+2", 2);
        bad("1/", 2);
        bad("1<", 2);
        bad("1<2<3", 3);
        bad("1<2=3", 3);
        bad("1=2+3>4", 5);
        bad("1<<2", 2);
        bad("(1<2>3)", 4);
        bad("(1<2)<3>4", 7);
        bad("1234", 3);
        bad("1+0000", 5);
        bad("nn", 1);
        bad("n2", 1);
        bad("2n", 1);
        bad("2(3)", 1);
        bad("(3)2", 3);
        bad("()", 1);
        bad("(", 1);
        bad("(1", 2);
        bad("((1)", 4);
        bad("(1))", 3);
        bad("(((((1)))))", 4);
        bad("-(-(-(-(-(1)))))", 9);
        bad("((((1))))+((((1)))", 18);
        bad("1,2", 1);
        bad("N", 0);
    }

    private static void ruleLimits() {
        String forty = "1+".repeat(19) + "11";
        CliffCars cars = new CliffCars();
        due.is("rule() of 40 signs", Due.write(cars, forty).rule(), 0);
        due.is("SPRING", cars.count(9), 9);
        bad(forty + "1", 40);
        bad(forty + "+", 40);
        bad(forty + "x", 40);
        bad("1+".repeat(20), 40);
        bad("1+".repeat(20) + "1", 40);
        bad("1+".repeat(40), 40);
        bad("-".repeat(80), 40);
        bad("1+".repeat(19) + "1x" + "1".repeat(20), 39);
        bad("1+".repeat(18) + "1111" + "+1".repeat(5), 39);
        bad("(" + "1+".repeat(19) + "1", 40);
        bad("(" + "1+".repeat(19) + "1)", 40);
        due.is("rule() of 39 times - and 1", Due.write(cars, "-".repeat(39) + "1").rule(), 0);
        due.is("SPRING", cars.count(9), 0);
        due.is("rule() of 38 times - and 1", Due.write(cars, "-".repeat(38) + "1").rule(), 0);
        due.is("SPRING", cars.count(9), 1);
    }

    private static void ruleStaysWhenRefused() {
        CliffCars cars = new CliffCars();
        Due.write(cars, "5").rule();
        Due.write(cars, "7+").rule();
        due.is("THE RULE stays", cars.count(9), 5);
        Due.write(cars, "7").law();
        due.is("law() is not THE RULE", cars.count(9), 5);
        due.is("rule() of none", cars.rule(), 0);
        due.is("none: 3", cars.count(9), 3);
        cars.grips(7);
        Due.write(cars, "g").rule();
        cars.undo();
        due.is("undo() leaves THE RULE", cars.count(9), 2);
        cars.keep(0);
        Due.write(cars, "8").rule();
        cars.again(0);
        due.is("again() leaves THE RULE", cars.count(9), 8);
    }

    private static void partyThrows() {
        CliffCars cars = Due.with("53/427");
        due.is("party(0, 1)", cars.party(0, 1), 3);
        due.is("party(1, 2)", cars.party(1, 2), 7);
        due.noParty(cars, 0, 2);
        due.noParty(cars, 1, 3);
        due.noParty(cars, 0, -1);
        due.noParty(cars, 1, 5);
        due.noParty(cars, 2, 0);
        due.noParty(cars, -1, 0);
        due.noParty(cars, Integer.MAX_VALUE, Integer.MAX_VALUE);
        due.noParty(cars, 0, Integer.MIN_VALUE);
        due.noParty(new CliffCars(), 0, 0);
    }

    private static void sheets() {
        CliffCars cars = Due.with("11111/22222");
        due.is("sheet of ints", cars.sheet(2, 5, 3, 2), 33);
        due.waits("3 5 7 9 11", cars, "35799/22222");
        due.is("sheet of fewer", cars.sheet(2, 2, 8, -1), 18);
        due.waits("those behind it have 1", cars, "87111/22222");
        due.is("an empty sheet", cars.sheet(2, 0, 9, 9), 5);
        due.waits("all 1", cars, "11111/22222");
        due.is("sheet of bytes", cars.sheet(0, 5, 250, 3), 1 + 1 + 1 + 3 + 6);
        due.waits("-6 -3 0 3 6", cars, "11136/22222");
        due.is("bytes by their lowest bits", cars.sheet(0, 2, 0x105, 0x7F), 5 + 1 + 3);
        due.waits("5, 132 is -124", cars, "51111/22222");
        due.is("sheet of shorts", cars.sheet(1, 3, 65536 + 4, 65536), 4 * 3 + 2);
        due.is("shorts with their sign", cars.sheet(1, 2, 32767, 1), 9 + 1 + 3);
        due.waits("32767, -32768", cars, "91111/22222");
        due.is("ints go round", cars.sheet(2, 2, Integer.MAX_VALUE, 1), 9 + 1 + 3);
        due.is("a missing sheet", cars.sheet(3, 5, 9, 9), -3);
        due.waits("all have 1", cars, "11111/22222");
        due.is("a missing sheet of n below 0", cars.sheet(3, -7, 9, 9), -3);

        CliffCars few = Due.with("77/3");
        due.is("a sheet of more than wait", few.sheet(2, 5, 2, 1), 5);
        due.waits("none comes", few, "23/3");
        due.is("nobody ABOVE", new CliffCars().sheet(0, 3, 4, 4), 0);
        due.is("nobody ABOVE, missing", new CliffCars().sheet(3, 3, 4, 4), -3);
    }

    private static void sheetsRefused() {
        CliffCars cars = Due.with("234/5");
        cars.needs();
        due.is("kind 4", cars.sheet(4, 1, 1, 1), -1);
        due.is("kind -1", cars.sheet(-1, 1, 1, 1), -1);
        due.is("kind 4, n below 0", cars.sheet(4, -1, 1, 1), -1);
        for (int kind = 0; kind <= 3; kind++) {
            due.is("n 6 of kind " + kind, cars.sheet(kind, 6, 1, 1), -1);
        }
        for (int kind = 0; kind <= 2; kind++) {
            due.is("n -1 of kind " + kind, cars.sheet(kind, -1, 1, 1), -2);
            due.is("n least of kind " + kind, cars.sheet(kind, Integer.MIN_VALUE, 1, 1), -2);
        }
        due.waits("nothing changes", cars, "234/5");
        due.row("the ROW stays", cars, 5, 5);
    }

    private static void sheetAndUndo() {
        CliffCars cars = Due.with("234/5");
        cars.sheet(2, 3, 6, 1);
        due.is("nothing is kept of it", cars.count(12), 0);
        cars.grips(7);
        due.is("sheet()", cars.sheet(3, 0, 0, 0), -3);
        due.is("what can be undone stays", cars.count(12), 1);
        due.is("undo()", cars.undo(), 0);
        due.waits("all is back as ahead of what is undone", cars, "678/5");
    }
}
