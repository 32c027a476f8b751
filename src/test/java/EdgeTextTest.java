/** Promises 1 to 7: each sentence that names an edge has a test of its own. */
public final class EdgeTextTest {
    private static final Due due = new Due("EdgeTextTest");
    private static final int LEAST = Integer.MIN_VALUE;
    private static final int GREATEST = Integer.MAX_VALUE;
    private static final String FORTY = "1+".repeat(19) + "11";

    public static void main(String[] args) {
        due.runEach(EdgeTextTest.class);
    }

    // ---- promise 1

    private static void nobodyWaitsAtFirst() {
        due.about(1, "Nobody waits.");
        CliffCars cars = new CliffCars();
        due.waits("a new object", cars, "/");
        due.noParty(cars, 0, 0);
        due.noParty(cars, 1, 0);
        due.is("trip()", cars.trip(), -2);
        due.row("a new object", cars);
    }

    /** 511 calls, and the one that asks. */
    private static void the512thCallIsAnsweredToo() {
        due.about(1, "An object is used for at most 512 calls after it has been made");
        CliffCars cars = new CliffCars();
        for (int i = 0; i < 511; i++) {
            cars.runs(1);
        }
        due.is("count(8)", cars.count(8), 511);
    }

    // ---- promise 2

    private static void fourSignsComeBehind() {
        due.about(2, "Four signs come behind THE TEXT");
        CliffCars cars = new CliffCars();
        due.is("sign()", cars.sign(0x31323334), 4);
        due.is("end(3)", cars.end(3), true);
        due.is("sign()", cars.sign(0x34352F36), 7);
        due.is("parties()", cars.parties(), 6);
        due.waits("123 and 45/6", cars, "12345/6");
    }

    private static void zerosAreSignsToo() {
        due.about(2, "how many it has");
        CliffCars cars = new CliffCars();
        due.is("sign(0)", cars.sign(0), 4);
        due.is("sign(0)", cars.sign(0), 8);
        due.is("signs of THE TEXT", cars.count(14), 8);
        due.is("a sign 0 is no party", cars.parties(), -1);
    }

    private static void highestByteFirst() {
        due.about(2, "of v the highest byte first");
        CliffCars cars = new CliffCars();
        cars.sign(0x31322F33);
        due.is("parties() of 12/3", cars.parties(), 3);
        due.waits("12/3", cars, "12/3");
        cars.sign(0x31FFFFFF);
        due.is("parties() of 1 and 255", cars.parties(), -2);
        cars.sign(0xB1313131);
        due.is("177 is not the digit 49", cars.parties(), -1);
        cars.sign(-1);
        due.is("parties() of 255", cars.parties(), -1);
        cars.sign(LEAST);
        due.is("parties() of 128", cars.parties(), -1);
    }

    private static void noMoreThan80Signs() {
        due.about(2, "Refused: there would be more than 80.");
        CliffCars cars = new CliffCars();
        for (int n = 4; n <= 80; n += 4) {
            due.is("sign()", cars.sign(0x2A2A2A2A), n);
        }
        due.is("a sign behind 80", cars.sign(0x2A2A2A2A), -1);
        due.is("signs of THE TEXT", cars.count(14), 80);
        for (int n = 79; n >= 77; n--) {
            cars.end(n);
            due.is("four signs behind " + n, cars.sign(0x2A2A2A2A), -1);
            due.is("signs of THE TEXT", cars.count(14), n);
        }
        cars.end(76);
        due.is("four signs behind 76", cars.sign(0x2A2A2A2A), 80);
    }

    // ---- promise 3

    private static void endKeepsTheFirstSigns() {
        due.about(3, "THE TEXT has its first n signs alone: true");
        CliffCars cars = Due.write(new CliffCars(), "12/3");
        due.is("end(4) of 4", cars.end(4), true);
        due.is("signs of THE TEXT", cars.count(14), 4);
        due.is("end(2) of 4", cars.end(2), true);
        due.is("parties()", cars.parties(), 2);
        due.waits("the first two signs", cars, "12/");
        due.is("end(0) of none", cars.end(0), true);
        Due.write(cars, "34");
        due.is("end(0) of 2", cars.end(0), true);
        due.is("signs of THE TEXT", cars.count(14), 0);
    }

    private static void endOfTooMany() {
        due.about(3, "false if it has not so many");
        CliffCars cars = new CliffCars();
        due.is("end(1) of none", cars.end(1), false);
        Due.write(cars, "12/3");
        due.is("end(5) of 4", cars.end(5), false);
        due.is("end(80) of 4", cars.end(80), false);
        due.is("end(2147483647)", cars.end(GREATEST), false);
        due.is("signs of THE TEXT", cars.count(14), 4);
        cars.end(2);
        due.is("what was cut off is gone: end(3) of 2", cars.end(3), false);
        due.is("parties()", cars.parties(), 2);
    }

    private static void endBelow0() {
        due.about(3, "or n is below 0");
        CliffCars cars = Due.write(new CliffCars(), "12/3");
        due.is("end(-1)", cars.end(-1), false);
        due.is("end(-2147483648)", cars.end(LEAST), false);
        due.is("signs of THE TEXT", cars.count(14), 4);
        due.is("parties()", cars.parties(), 3);
    }

    // ---- promise 4

    private static void come(CliffCars cars, String text, int want) {
        due.is("parties() of " + text, Due.write(cars, text).parties(), want);
        due.is("parties() empties THE TEXT", cars.count(14), 0);
    }

    private static void noText() {
        due.about(4, "(an empty one: nothing)");
        CliffCars cars = Scenes.busy();
        String was = Due.shape(cars);
        come(cars, "", 0);
        due.same("an empty text", cars, was);
    }

    private static void signsThatAreNoParty() {
        due.about(4, "-1 - p: the sign at p can't stand there");
        for (String wrong : new String[] {"0", ":", " ", "a", "-", "\u00b1", "\0"}) {
            come(new CliffCars(), wrong, -1);
            come(new CliffCars(), "1" + wrong, -2);
            come(new CliffCars(), "/" + wrong, -2);
            come(new CliffCars(), "12345/98" + wrong + "65", -9);
        }
        come(new CliffCars(), "//", -2);
        come(new CliffCars(), "1/2/3", -4);
        come(new CliffCars(), "12345/98765/", -12);
    }

    private static void slashWithNoneBehindIt() {
        due.about(4, "its end, if it ends too early: a / with none behind it");
        come(new CliffCars(), "/", -2);
        come(new CliffCars(), "1/", -3);
        come(new CliffCars(), "12345/", -7);
        come(Due.with("/12345"), "1/", -3);
    }

    private static void noRoom() {
        due.about(4, "a party for which there is no room, at it");
        come(new CliffCars(), "123456", -6);
        come(new CliffCars(), "/123456", -7);
        come(Due.with("123/1234"), "123", -3);
        come(Due.with("123/1234"), "1/12", -4);
        come(Due.with("12345/12345"), "1", -1);
        come(Due.with("12345/12345"), "/1", -2);
        come(Due.with("12345"), "1/1x", -1);
        come(new CliffCars(), "1".repeat(80), -6);
    }

    private static void nobodyComesIfOneCannot() {
        due.about(4, "Nobody comes, if one can't.");
        CliffCars cars = Due.with("78/9");
        cars.grips(5);
        cars.needs();
        String was = Due.shape(cars);
        come(cars, "12/3x", -5);
        come(cars, "1234", -4);
        come(cars, "1/12345", -7);
        come(cars, "1/", -3);
        due.same("nobody came", cars, was);
    }

    // ---- promise 5

    private static void bad(String rule, int place) {
        CliffCars cars = Due.with("53/4", "7");
        due.is("rule() of " + rule, Due.write(cars, rule).rule(), -1 - place);
        due.is("rule() empties THE TEXT", cars.count(14), 0);
        due.is("SPRING stays", cars.count(9), 7);
    }

    private static void noRule() {
        due.about(5, "(an empty one: none): 0");
        CliffCars cars = Due.with("53/4", "7");
        due.is("SPRING", cars.count(9), 7);
        due.is("rule() of none", cars.rule(), 0);
        due.is("SPRING", cars.count(9), 3);
    }

    private static void signsThatAreNoRule() {
        due.about(5, "-1 - p: the sign at p can't stand there");
        bad("x", 0);
        bad("+", 0);
        bad("*1", 0);
        bad(")", 0);
        bad("\0", 0);
        bad("1 ", 1);
        bad("nn", 1);
        bad("1n", 1);
        bad("n1", 1);
        bad("1(2)", 1);
        bad("1)", 1);
        bad("()", 1);
        bad("1+*2", 2);
        bad("1<=2", 2);
        bad("(1)2", 3);
        bad("(1))", 3);
        bad("-u/-d+C", 6);
    }

    private static void ruleThatEndsTooEarly() {
        due.about(5, "its end, if it ends too early");
        bad("-", 1);
        bad("(", 1);
        bad("1+", 2);
        bad("n<", 2);
        bad("(1", 2);
        bad("1*-", 3);
        bad("((1)", 4);
        bad("1+".repeat(20), 40);
        bad("(" + "1+".repeat(19) + "1", 40);
    }

    private static void ruleOf40Signs() {
        due.about(5, "a text of at most 40 signs");
        CliffCars cars = new CliffCars();
        due.is("rule() of 40 signs", Due.write(cars, FORTY).rule(), 0);
        due.is("SPRING", cars.count(9), 9);
    }

    private static void ruleOfMoreThan40Signs() {
        due.about(5, "40, if it has more and the first 40 could go on or end");
        bad(FORTY + "1", 40);
        bad(FORTY + "+1", 40);
        bad(FORTY + "?", 40);
        bad(FORTY + "1".repeat(40), 40);
        bad("1+".repeat(20) + "1", 40);
        bad("1+".repeat(20) + "?", 40);
        bad("-".repeat(41), 40);
        bad("(" + "1+".repeat(19) + "1)", 40);
        bad("1+".repeat(19) + "1?" + "1", 39);
        bad("1+".repeat(18) + "1111" + "+1", 39);
        bad("?" + "1".repeat(79), 0);
    }

    // ---- promise 6

    private static void weightsOfBothSides() {
        due.about(6, "WEIGHT of party k that waits (side 0: ABOVE, 1: BELOW)");
        CliffCars cars = Due.with("12345/98765");
        for (int k = 0; k <= 4; k++) {
            due.is("party(0, " + k + ")", cars.party(0, k), 1 + k);
            due.is("party(1, " + k + ")", cars.party(1, k), 9 - k);
        }
    }

    private static void noSuchParty() {
        due.about(6, "NoSuchElementException: none such");
        CliffCars cars = Due.with("53/427");
        for (int k : new int[] {2, 3, 4, 5, -1, GREATEST, LEAST}) {
            due.noParty(cars, 0, k);
        }
        for (int k : new int[] {3, 4, 5, -1, GREATEST, LEAST}) {
            due.noParty(cars, 1, k);
        }
        CliffCars full = Due.with("12345/12345");
        due.noParty(full, 0, 5);
        due.noParty(full, 0, 9);
        due.noParty(full, 1, 5);
        due.noParty(full, 1, -1);
        cars.leaves(0, 0);
        due.noParty(cars, 0, 1);
    }

    private static void noSuchSide() {
        due.about(6, "another side");
        CliffCars cars = Due.with("12345/12345");
        for (int side : new int[] {2, 3, -1, GREATEST, LEAST}) {
            due.noParty(cars, side, 0);
            due.noParty(cars, side, 4);
        }
    }

    // ---- promise 7

    private static void sheet(String call, int answer, CliffCars cars, int want, String waits) {
        due.is(call, answer, want);
        due.waits(call, cars, waits);
    }

    private static void entriesGoRound() {
        due.about(7, "of n entries f, f + step, ..");
        CliffCars cars = Due.with("11111/2");
        sheet("3 5 7 9 11", cars.sheet(2, 5, 3, 2), cars, 33, "35799/2");
        sheet("5 4 3 2 1", cars.sheet(2, 5, 5, -1), cars, 15, "54321/2");
        sheet("greatest, least", cars.sheet(2, 2, GREATEST, 1), cars, 13, "91111/2");
        sheet("least, greatest", cars.sheet(2, 2, LEAST, -1), cars, 13, "19111/2");
        sheet("4 times 2^30 and 5 is 5", cars.sheet(2, 5, 5, 1 << 30), cars, 5 + 9 + 1 + 1 + 5, "59115/2");
    }

    private static void lowestBits() {
        due.about(7, "of bytes, shorts the lowest bits, with their sign");
        CliffCars cars = Due.with("111/2");
        sheet("bytes 127, 128", cars.sheet(0, 2, 127, 1), cars, 11, "911/2");
        sheet("bytes 255, 256, 257", cars.sheet(0, 3, 255, 1), cars, 3, "111/2");
        sheet("bytes 260, 516, 772", cars.sheet(0, 3, 260, 256), cars, 12, "444/2");
        sheet("bytes -250", cars.sheet(0, 1, -250, 0), cars, 8, "611/2");
        sheet("shorts 128, 256", cars.sheet(1, 2, 128, 128), cars, 19, "991/2");
        sheet("shorts 32767, 32768", cars.sheet(1, 2, 32767, 1), cars, 11, "911/2");
        sheet("shorts 65540", cars.sheet(1, 3, 65540, 65536), cars, 12, "444/2");
        sheet("ints 32768, 65536", cars.sheet(2, 2, 32768, 32768), cars, 19, "991/2");
    }

    private static void putToOneToNine() {
        due.about(7, "put to 1 .. 9");
        CliffCars cars = Due.with("55/2");
        for (int kind = 0; kind <= 2; kind++) {
            sheet("0, 1", cars.sheet(kind, 2, 0, 1), cars, 2, "11/2");
            sheet("1, 2", cars.sheet(kind, 2, 1, 1), cars, 3, "12/2");
            sheet("9, 10", cars.sheet(kind, 2, 9, 1), cars, 18, "99/2");
            sheet("-1, 8", cars.sheet(kind, 2, -1, 9), cars, 9, "18/2");
        }
    }

    private static void thoseBehindTheSheet() {
        due.about(7, "those behind it have 1");
        CliffCars cars = Due.with("55555/2");
        for (int kind = 0; kind <= 2; kind++) {
            sheet("two entries", cars.sheet(kind, 2, 7, 1), cars, 18, "78111/2");
            sheet("no entry", cars.sheet(kind, 0, 7, 1), cars, 5, "11111/2");
        }
    }

    private static void sumOfAllAbove() {
        due.about(7, "the sum of all ABOVE");
        due.is("nobody ABOVE", Due.with("/5").sheet(2, 5, 7, 1), 0);
        CliffCars few = Due.with("55/2");
        sheet("more entries than wait", few.sheet(2, 5, 2, 1), few, 5, "23/2");
        CliffCars full = Due.with("11111/2");
        sheet("five entries", full.sheet(2, 5, 9, 0), full, 45, "99999/2");
    }

    private static void nothingToUndoOfASheet() {
        due.about(7, "Nothing is kept of it that could be undone");
        CliffCars cars = Due.with("234/5");
        cars.sheet(2, 3, 6, 1);
        due.is("what can be undone", cars.count(12), 0);
        due.is("undo()", cars.undo(), -1);
        cars.grips(7);
        cars.sheet(3, 0, 0, 0);
        due.is("what can be undone", cars.count(12), 1);
    }

    private static void undoBehindASheet() {
        due.about(7, "an undo() behind it brings all back as it was ahead of what is undone");
        CliffCars cars = Due.with("234/5");
        cars.sheet(2, 3, 6, 1);
        cars.grips(7);
        cars.sheet(2, 3, 1, 0);
        due.is("undo()", cars.undo(), 0);
        due.waits("ahead of grips()", cars, "678/5");
    }

    private static void sheetBelow0() {
        due.about(7, "-2: n below 0 (of kinds 0 .. 2; nothing changes)");
        CliffCars cars = Scenes.busy();
        String was = Due.shape(cars);
        for (int kind = 0; kind <= 2; kind++) {
            due.is("n -1 of kind " + kind, cars.sheet(kind, -1, 9, 0), -2);
            due.is("n least of kind " + kind, cars.sheet(kind, LEAST, 9, 0), -2);
        }
        due.same("nothing changes", cars, was);
    }

    private static void allAreBehindAMissingSheet() {
        due.about(7, "or a missing one (3): those behind it have 1");
        CliffCars cars = Due.with("53/9");
        cars.sheet(3, 2, 7, 1);
        due.waits("a missing sheet", cars, "11/9");
    }

    private static void missingSheet() {
        due.about(7, "-3: missing (all 1)");
        for (int n : new int[] {0, 5, -1, LEAST}) {
            CliffCars cars = Due.with("53142/9");
            sheet("missing", cars.sheet(3, n, 9, 0), cars, -3, "11111/9");
        }
        due.is("nobody ABOVE", Due.with("/5").sheet(3, 0, 0, 0), -3);
    }

    private static void sheetRefused() {
        due.about(7, "NONE: another kind, n above 5 (these first)");
        CliffCars cars = Scenes.busy();
        String was = Due.shape(cars);
        for (int kind : new int[] {4, -1, LEAST, GREATEST}) {
            due.is("kind " + kind, cars.sheet(kind, 3, 9, 0), -1);
            due.is("kind " + kind + ", n below 0", cars.sheet(kind, -1, 9, 0), -1);
        }
        for (int kind = 0; kind <= 3; kind++) {
            due.is("n 6 of kind " + kind, cars.sheet(kind, 6, 9, 0), -1);
            due.is("n greatest of kind " + kind, cars.sheet(kind, GREATEST, 9, 0), -1);
        }
        due.same("nothing changes", cars, was);
    }
}
