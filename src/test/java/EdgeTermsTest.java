/** Terms 1 and 2: each sentence that names an edge has a test of its own, told by a promise that it binds. */
public final class EdgeTermsTest {
    private static final Due due = new Due("EdgeTermsTest");
    private static final int LEAST = Integer.MIN_VALUE;

    public static void main(String[] args) {
        due.runEach(EdgeTermsTest.class);
    }

    // ---- Terms 1: parties

    private static void fiveInARow() {
        due.about(4, "wait in a row each, at most 5");
        CliffCars cars = Due.with("12345/98765");
        due.waits("five each", cars, "12345/98765");
        due.is("a sixth ABOVE", Due.write(cars, "1").parties(), -1);
        due.is("a sixth BELOW", Due.write(cars, "/1").parties(), -2);
        cars.leaves(0, 0);
        due.is("there is room", Due.write(cars, "6").parties(), 1);
        due.waits("behind those that wait", cars, "23456/98765");
    }

    private static void weightsFrom1To9() {
        due.about(4, "WEIGHTS 1 .. 9 of parties 0, 1, .. from the first on");
        CliffCars cars = Due.with("19/91");
        due.waits("1 and 9", cars, "19/91");
        due.is("0", Due.write(cars, "0").parties(), -1);
        due.is("the sign behind 9", Due.write(cars, ":").parties(), -1);
    }

    private static void elevenSigns() {
        due.about(4, "a text of at most 11 signs");
        due.is("11", Due.write(new CliffCars(), "12345/98765").parties(), 10);
        due.is("12", Due.write(new CliffCars(), "12345/987654").parties(), -12);
        due.is("12", Due.write(new CliffCars(), "123456/98765").parties(), -6);
    }

    private static void eitherSideAlone() {
        due.about(4, "digits 1 .. 9 (ABOVE), then, if any come BELOW, / and digits 1 .. 9 (BELOW): 12/5, 7, /3");
        CliffCars cars = new CliffCars();
        due.is("12/5", Due.write(cars, "12/5").parties(), 3);
        due.waits("12/5", cars, "12/5");
        due.is("7", Due.write(cars, "7").parties(), 1);
        due.waits("7", cars, "127/5");
        due.is("/3", Due.write(cars, "/3").parties(), 1);
        due.waits("/3", cars, "127/53");
    }

    private static void seatsAtFirst() {
        due.about(12, "SEATS 1 .. 3 (parties in a car at most; at first 2)");
        CliffCars cars = Due.with("111/111");
        due.is("SEATS", cars.count(2), 2);
        due.is("trip()", cars.trip(), 4);
        cars.seats(1);
        due.is("trip()", cars.trip(), 2);
        CliffCars three = Scenes.by("1111/1111", 3, 2);
        due.is("trip()", three.trip(), 6);
    }

    private static void gripAtFirst() {
        due.about(11, "GRIP 0 .. 9 (at first 2)");
        CliffCars cars = Due.with("1/1");
        due.is("GRIP", cars.count(3), 2);
        due.is("needs()", cars.needs(), 2);
        cars.grips(0);
        due.is("needs()", cars.needs(), 0);
        cars.grips(9);
        due.is("needs()", cars.needs(), 9);
    }

    private static void cisternAtFirst() {
        due.about(15, "CISTERN 0 .. 999 (water; at first 20)");
        CliffCars cars = new CliffCars();
        due.is("CISTERN", cars.count(4), 20);
        due.is("drains(20)", cars.drains(20), 0);
        due.is("drains(1)", cars.drains(1), -2);
        Due.write(cars, "9").rule();
        cars.runs(60);
        cars.runs(60);
        due.is("CISTERN", cars.count(4), 999);
    }

    private static void nothingWasCarriedAtFirst() {
        due.about(49, "WEIGHTS that were carried 0 .. 9999 (at first 0)");
        CliffCars cars = Due.with("531/427");
        due.is("DOWN", cars.count(5), 0);
        due.is("UP", cars.count(6), 0);
        cars.leaves(0, 0);
        cars.leaves(1, 0);
        due.is("who leaves is not carried", cars.count(5) + cars.count(6), 0);
    }

    private static void noTimeAtFirst() {
        due.about(49, "TRIPS, MINUTES 0 .. (at first 0)");
        CliffCars cars = Due.with("531/427");
        due.is("TRIPS", cars.count(7), 0);
        due.is("MINUTES", cars.count(8), 0);
        cars.runs(60);
        due.is("TRIPS", cars.count(7), 2);
        due.is("MINUTES", cars.count(8), 60);
    }

    // ---- Terms 1: THE RULE

    /** SPRING where 5 and 3 wait above, 4 below, GRIP 2, CISTERN 20, no TRIP, no MINUTE. */
    private static void spring(String rule, int want) {
        CliffCars cars = Due.with("53/4");
        due.is("rule() of " + rule, Due.write(cars, rule).rule(), 0);
        due.is("SPRING of " + rule, cars.count(9), want);
    }

    private static void bad(String rule, int place) {
        CliffCars cars = new CliffCars();
        due.is("rule() of " + rule, Due.write(cars, rule).rule(), -1 - place);
    }

    private static void noRuleAtFirst() {
        due.about(5, "(at first none: 3)");
        CliffCars cars = new CliffCars();
        due.is("SPRING", cars.count(9), 3);
        due.is("later(1)", cars.later(1), 23);
    }

    private static void comparesBindLeast() {
        due.about(5, "< > = bind least (two; 1 or 0; not one behind the other)");
        spring("1+1<3", 1);
        spring("3>1+1", 1);
        spring("2*2=1+3", 1);
        spring("2<2", 0);
        spring("2>2", 0);
        spring("2=2", 1);
        spring("5+(2<2)", 5);
        spring("5+(2>2)", 5);
        spring("5+(2=3)", 5);
        spring("(1<2)<3", 1);
        spring("3>(2>1)", 1);
        spring("(1<2)+(2<3)", 2);
        bad("1<2<3", 3);
        bad("1=1=1", 3);
        bad("1>2+3=4", 5);
        bad("(1<2<3)", 4);
        bad("1<(2<3)<4", 7);
    }

    private static void sumsFromTheLeft() {
        due.about(5, "then + - (from the left)");
        spring("9-3-2", 4);
        spring("9-3+2", 8);
        spring("9-(3-2)", 8);
    }

    private static void dividesBy0() {
        due.about(5, "by 0: 0; cut to 0");
        spring("7/0", 0);
        spring("0/0", 0);
        spring("7/(u-2)+4", 4);
        spring("7/2", 3);
        spring("9+-7/2", 6);
        spring("9+7/-2", 6);
        spring("-7/-2", 3);
        spring("8/2*2", 8);
        spring("2*7/2/2", 3);
    }

    private static void minusAheadOfAThing() {
        due.about(5, "then - ahead of a thing (any many)");
        spring("-5", 0);
        spring("--5", 5);
        spring("2--5", 7);
        spring("2*--3", 6);
        spring("-(2-5)", 3);
        spring("-".repeat(38) + "1", 1);
        spring("-".repeat(39) + "1", 0);
        bad("-".repeat(40), 40);
    }

    private static void digitsOfANumber() {
        due.about(5, "a NUMBER of 1 to 3 digits");
        spring("7", 7);
        spring("007", 7);
        spring("999/111", 9);
        spring("000", 0);
        bad("1000", 3);
        bad("0007", 3);
        bad("1+1000", 5);
    }

    private static void bracketsInOneAnother() {
        due.about(5, "an EXPRESSION in ( ) (at most 4 in one another)");
        spring("((((5))))", 5);
        spring("((((5))))-((((2))))", 3);
        spring("-(-(-(-4)))", 4);
        bad("(((((5)))))", 4);
        bad("(((1+(2-(3)))))", 8);
        bad("()", 1);
    }

    private static void minutesBySeven() {
        due.about(49, "n MINUTES by 7 (rest)");
        CliffCars cars = new CliffCars();
        Due.write(cars, "n").rule();
        for (int minute = 0; minute <= 15; minute++) {
            due.is("SPRING behind " + minute, cars.count(9), minute % 7);
            cars.runs(1);
        }
    }

    private static void tripsByFive() {
        due.about(49, "t TRIPS by 5 (rest)");
        CliffCars cars = Scenes.by("99999", 1, 0);
        Due.write(cars, "t").rule();
        for (int trips = 0; trips <= 4; trips++) {
            due.is("SPRING behind " + trips, cars.count(9), trips);
            cars.trip();
        }
        due.is("SPRING behind 5", cars.count(9), 0);
        Due.write(cars, "99").parties();
        cars.trip();
        due.is("SPRING behind 6", cars.count(9), 1);
    }

    private static void thingsOfNobody() {
        due.about(49, "u how many wait ABOVE, d how many wait BELOW, w WEIGHTS of all that wait ABOVE");
        spring("u*100+d*10+w-200-10", 8);
        CliffCars nobody = new CliffCars();
        Due.write(nobody, "u+d+w").rule();
        due.is("nobody waits", nobody.count(9), 0);
        CliffCars full = Due.with("11111/99999", "u");
        due.is("five ABOVE", full.count(9), 5);
        Due.write(full, "d").rule();
        due.is("five BELOW", full.count(9), 5);
        Due.write(full, "w+1").rule();
        due.is("more than SEATS", full.count(9), 6);
    }

    private static void asInts() {
        due.about(49, "As ints, put to 0 .. 9: SPRING");
        spring("0-1", 0);
        spring("10", 9);
        spring("9", 9);
        spring("999*999*999", 9);
        spring("999*999*999*999", 0);
        spring("999*999*999*999<0", 1);
        spring("512*512*512*16<0", 1);
        spring("512*512*512*16/-1<0", 1);
        spring("-(512*512*512*16)<0", 1);
        spring("512*512*512*16-1>0", 1);
        spring("512*512*512*32", 0);
    }

    // ---- Terms 1: minutes and TRIPS

    private static void cisternIsFull() {
        due.about(10, "CISTERN is SPRING more (999 at most)");
        CliffCars cars = new CliffCars();
        Due.write(cars, "9").rule();
        cars.runs(60);
        cars.runs(48);
        due.is("CISTERN", cars.count(4), 992);
        due.is("later(1)", cars.later(1), 999);
        cars.runs(1);
        due.row("992 and 9", cars, 0, 999);
        cars.runs(1);
        due.row("999 and 9", cars, 0, 999);
        due.is("MINUTES", cars.count(8), 110);
        Due.write(cars, "7").rule();
        cars.drains(7);
        cars.runs(1);
        due.row("992 and 7", cars, 0, 999);
    }

    private static void springOfTheMinute() {
        due.about(10, "MINUTES are 1 more");
        CliffCars cars = new CliffCars();
        Due.write(cars, "n").rule();
        cars.runs(1);
        due.row("SPRING ahead of it was 0", cars, 0, 20);
        cars.runs(1);
        due.row("SPRING ahead of it was 1", cars, 0, 21);
    }

    private static void noneOrUpToSeats() {
        due.about(9, "(none, or up to SEATS of them)");
        CliffCars cars = Scenes.by("99999/11111", 2, 0);
        due.is("none below", cars.sends(1, 0), 1);
        due.is("none above", cars.sends(0, 1), 1);
        due.is("2 and 2", cars.sends(3, 3), 4);
        due.is("2 of 2 that are left", cars.sends(3, 0), 2);
        due.is("3 of 2 SEATS", Due.with("999").sends(7, 0), -1);
    }

    private static void noWaterAtLeast() {
        due.about(18, "0 at least; two empty ones: GRIP");
        CliffCars cars = Scenes.by("9/6", 1, 2);
        due.is("8 less 9", cars.needs(), 0);
        cars.grips(3);
        due.is("9 less 9", cars.needs(), 0);
        cars.grips(4);
        due.is("10 less 9", cars.needs(), 1);
        CliffCars empty = new CliffCars();
        empty.odds(5, 2);
        due.row("two empty ones need 2", empty, 1, 1);
    }

    private static void noTripOfTwoEmptyGroups() {
        due.about(9, "at least one of which is not empty");
        CliffCars cars = Scenes.by("1/1", 2, 0);
        due.is("both empty", cars.sends(0, 0), -2);
        due.is("one is not", cars.sends(1, 0), 1);
        due.is("the other one is not", cars.sends(0, 1), 1);
    }

    private static void justEnoughWater() {
        due.about(8, "if CISTERN is less than the WATER that they need, there is none");
        CliffCars cars = Due.with("/99");
        due.is("20 of 20", cars.trip(), 2);
        CliffCars less = Due.with("/99");
        less.drains(1);
        due.is("20 of 19", less.trip(), -3);
    }

    /** What SPRING looks at is as the TRIP leaves it, but for MINUTES. */
    private static void minuteBehindATrip() {
        due.about(8, "TRIPS are 1 more; then a MINUTE goes by");
        tripBy("t*5", 16 + 5);
        tripBy("n*5", 16);
        tripBy("u", 16 + 1);
        tripBy("d*2", 16 + 4);
        tripBy("w", 16 + 3);
        tripBy("c-12", 16 + 4);
    }

    /** 1 and 2 go down for 1 and 4 up: 4 of 20, and what the rule gives; 3 stays above, 2 and 6 below. */
    private static void tripBy(String rule, int cistern) {
        CliffCars cars = Due.with("123/1426", rule);
        due.is("trip() by " + rule, cars.trip(), 4);
        due.row("trip() by " + rule, cars, 4, cistern);
        due.waits("trip() by " + rule, cars, "3/26");
    }

    private static void thoseBehindMoveUp() {
        due.about(9, "the parties of the groups are gone, those behind them move up");
        CliffCars cars = Due.with("12345/98765");
        cars.sends(18, 0);
        due.waits("the second and the last", cars, "134/98765");
        cars.grips(0);
        cars.sends(0, 1);
        due.waits("the first", cars, "134/8765");
    }

    /** No run of 512 calls carries so much, so that this one goes on longer. */
    private static void carriedAtMost() {
        due.about(8, "UP those of the lower one (9999 at most)");
        CliffCars cars = new CliffCars();
        cars.grips(0);
        for (int i = 0; i < 222; i++) {
            Due.write(cars, "99999/99999").parties();
            cars.runs(3);
        }
        due.is("222 times 45", cars.count(5), 9990);
        due.is("222 times 45", cars.count(6), 9990);
        Due.write(cars, "9/99").parties();
        cars.seats(1);
        cars.trip();
        due.is("9 more", cars.count(5), 9999);
        due.is("9 more", cars.count(6), 9999);
        cars.trip();
        due.is("none", cars.count(5), 9999);
        due.is("9 more are too many", cars.count(6), 9999);
        cars.undo();
        Due.write(cars, "5").parties();
        cars.trip();
        due.is("5 more are too many", cars.count(5), 9999);
        Due.write(cars, "5/5").parties();
        cars.years(0, 1);
        due.is("both together", cars.row(0), 19998);
    }

    private static void nextTripOfFewer() {
        due.about(18, "THE NEXT TRIP is of the first SEATS ABOVE, or all, if fewer wait");
        CliffCars cars = Scenes.by("12/3456", 3, 2);
        due.is("12 and 2 less 3", cars.needs(), 11);
        due.row("2 above, 3 below", cars, 3, 12);
        CliffCars above = Scenes.by("3456/12", 3, 2);
        due.is("3 and 2 less 12", above.needs(), 0);
        due.row("3 above, 2 below", above, 12, 3);
        CliffCars one = Scenes.by("12/34", 1, 2);
        one.needs();
        due.row("1 and 1", one, 1, 3);
    }

    // ---- Terms 2

    private static void rowToldLast() {
        due.about(50, "ROW: numbers told last by a call that says so");
        CliffCars cars = Due.with("531/427");
        cars.later(0);
        due.row("four", cars, 0, 0, 3, 3);
        cars.needs();
        due.row("then two", cars, 8, 6);
        cars.fits();
        due.row("then one", cars, 6);
        cars.pails(2);
        due.row("then none", cars);
        cars.trip();
        due.row("then two", cars, 0, 23);
    }

    /** 1 and 1, 2 and 2, 2 and 1 need none: rows 1 2, 2 1, 2 2. */
    private static void rowsFromTheFirstOn() {
        due.about(27, "Rows of numbers are compared from the first on");
        CliffCars cars = Scenes.by("12/21", 1, 0);
        due.is("most(0)", cars.most(0), 2);
        due.row("most(0)", cars, 0, 1, 2);
    }

    private static void setsAsBits() {
        due.about(27, "Groups are told as sets (bits: party k of its row)");
        CliffCars cars = Scenes.by("11119/99991", 1, 0);
        due.is("most(0)", cars.most(0), 2);
        due.row("1 for 1", cars, 0, 1, 16);
        CliffCars last = Scenes.by("11119/9", 1, 0);
        due.is("most(0)", last.most(0), 2);
        due.row("9 for 9", last, 0, 16, 1);
    }

    private static void refusedCalls() {
        due.about(17, "Refused calls answer NONE, or false, and change nothing");
        CliffCars cars = Due.with("531/427");
        for (int i = 0; i < 20; i++) {
            cars.sign(0x2A2A2A2A);
        }
        for (int i = 0; i < 12; i++) {
            cars.heard(0, 0);
            cars.saw(0, 0, 1);
        }
        cars.needs();
        String was = Due.shape(cars);
        due.is("sign()", cars.sign(0), CliffCars.NONE);
        due.is("runs()", cars.runs(-1), CliffCars.NONE);
        due.is("undo()", cars.undo(), CliffCars.NONE);
        due.is("heard()", cars.heard(0, 0), CliffCars.NONE);
        due.is("saw()", cars.saw(0, 0, 0), CliffCars.NONE);
        due.is("end()", cars.end(81), false);
        due.is("keep()", cars.keep(2), false);
        due.is("again()", cars.again(0), false);
        due.same("refused calls", cars, was);
        due.is("signs of THE TEXT", cars.count(14), 80);
    }

    private static void textIsEmptiedByParties() {
        due.about(4, "change nothing but THE TEXT, which a call that reads it empties");
        CliffCars cars = Scenes.busy();
        Due.write(cars, "x").parties();
        due.is("refused", cars.count(14), 0);
        Due.write(cars, "1").parties();
        due.is("not refused", cars.count(14), 0);
    }

    private static void textIsEmptiedByRule() {
        due.about(5, "change nothing but THE TEXT, which a call that reads it empties");
        CliffCars cars = Scenes.busy();
        String was = Due.shape(cars);
        Due.write(cars, "9+").rule();
        due.is("refused", cars.count(14), 0);
        due.same("refused", cars, was);
        Due.write(cars, "9").rule();
        due.is("not refused", cars.count(14), 0);
    }

    private static void ruleBehindARefusedOne() {
        due.about(5, "Refused calls answer NONE, or false, and change nothing");
        CliffCars cars = new CliffCars();
        for (String wrong : new String[] {"((((1", "1<2<", "-(-(1+2*", "1+2*3-", "-", "?"}) {
            due.is("rule() of " + wrong, Due.write(cars, wrong).rule() < 0, true);
            due.is("rule() of brackets", Due.write(cars, "((((7))))").rule(), 0);
            due.is("SPRING", cars.count(9), 7);
            due.is("law() of " + wrong, Due.write(cars, wrong).law() <= -10000, true);
            due.is("rule() that compares", Due.write(cars, "1<2+3").rule(), 0);
            due.is("SPRING", cars.count(9), 1);
        }
    }

    private static void textIsEmptiedByDay() {
        due.about(16, "change nothing but THE TEXT, which a call that reads it empties");
        CliffCars cars = Scenes.busy();
        Due.write(cars, "*x").day();
        due.is("refused", cars.count(14), 0);
        Due.write(cars, "g3").day();
        due.is("none was done", cars.count(14), 0);
        Due.write(cars, "*").day();
        due.is("not refused", cars.count(14), 0);
    }

    private static void textIsEmptiedByLaw() {
        due.about(45, "change nothing but THE TEXT, which a call that reads it empties");
        CliffCars cars = Scenes.busy();
        Due.write(cars, "9+").law();
        due.is("refused", cars.count(14), 0);
        Due.write(cars, "9").law();
        due.is("not refused", cars.count(14), 0);
    }

    private static void textStaysWithOtherCalls() {
        due.about(2, "THE TEXT, which a call that reads it empties");
        CliffCars cars = Due.write(Scenes.busy(), "12/34");
        cars.sheet(3, 0, 0, 0);
        cars.sheet(4, 0, 0, 0);
        callsWithoutRow(cars);
        questionsOfWhatIsToCome(cars);
        questionsOfBoarding(cars);
        questionsOfGuesses(cars);
        questionsOfGames(cars);
        cars.trip();
        cars.sends(1, 0);
        cars.runs(1);
        cars.undo();
        cars.keep(1);
        cars.again(1);
        cars.end(-1);
        cars.end(9);
        due.is("signs of THE TEXT", cars.count(14), 5);
        due.is("12/34, as it was, is a rule", cars.rule(), 0);
        due.is("SPRING", cars.count(9), 0);
    }

    private static void noneAheadOfOthers() {
        due.about(9, "NONE comes ahead of other answers below 0, if not said otherwise");
        CliffCars dry = Due.with("12/999");
        dry.drains(20);
        due.is("sends(): no such party, no water", dry.sends(4, 3), -1);
        due.is("sends(): too many, no water", dry.sends(0, 7), -1);
        due.is("sends(): none below, no such above", dry.sends(8, 0), -1);
        due.is("drains(): too much, no water", dry.drains(100), -1);
        due.is("swaps(): none such, none behind it", dry.swaps(0, 2), -1);
        due.is("sheet(): n above 5 of a missing one", dry.sheet(3, 6, 0, 0), -1);
        due.is("holds(): another n, by none", Scenes.neverGoes().holds(61), -1);
        due.is("most(): another v, none do", new CliffCars().most(100), -1);
        due.is("least(): another t, no such TRIPS", new CliffCars().least(6), -1);
        due.is("when(): none such, in none", Scenes.neverGoes().when(1, 2), -1);
        due.is("dry(): another v, never", new CliffCars().dry(-1), -1);
    }

    private static void rowStaysWithAnswersOfNone() {
        due.about(50, "the ROW stays with each answer that tells of a refusal or that there is none");
        CliffCars nobody = new CliffCars();
        nobody.later(1);
        nobody.trip();
        nobody.sends(0, 0);
        nobody.needs();
        nobody.enough();
        nobody.waiting();
        nobody.soonest();
        nobody.most(99);
        nobody.least(1);
        nobody.best();
        nobody.asks();
        nobody.dry(0);
        nobody.dry(-1);
        nobody.runs(61);
        nobody.later(100);
        nobody.when(0, 0);
        nobody.holds(61);
        nobody.most(100);
        nobody.least(0);
        nobody.parts(2);
        nobody.odds(11, 0);
        nobody.pails(201);
        nobody.rests(21);
        nobody.years(1, 0);
        Due.write(nobody, "+").law();
        Due.write(nobody, "+").day();
        due.row("nobody waits", nobody, 0, 0, 0, 0);
        CliffCars stuck = Scenes.neverGoes();
        stuck.drains(3);
        stuck.trip();
        stuck.sends(0, 3);
        stuck.done();
        stuck.when(1, 0);
        stuck.waiting();
        stuck.holds(0);
        stuck.soonest();
        stuck.most(0);
        stuck.freely();
        stuck.saw(30, 0, 1);
        stuck.looks();
        due.row("they never go", stuck, 0, 18);
    }

    private static void rowStaysWithCallsThatDoNotTellOfIt() {
        due.about(50, "and with calls that do not tell of it");
        CliffCars cars = Scenes.busy();
        callsWithoutRow(cars);
        due.row("the ROW stays", cars, 8, 6);
        Due.write(cars, "1").rule();
        due.row("rule()", cars, 8, 6);
        cars.leaves(0, 0);
        Due.write(cars, "1").parties();
        due.row("parties()", cars, 8, 6);
    }

    /** None of these reads THE TEXT either. */
    private static void callsWithoutRow(CliffCars cars) {
        cars.party(0, 0);
        cars.sheet(2, 3, 5, -2);
        cars.grips(1);
        cars.seats(3);
        cars.swaps(0, 0);
        cars.drains(1);
        cars.leaves(0, 0);
        cars.undo();
        cars.heard(0, 0);
        cars.forget();
        cars.saw(1, 1, 1);
        cars.denies();
        cars.keep(0);
        cars.again(0);
        cars.count(4);
        cars.row(0);
    }

    private static void running() {
        due.about(10, "if somebody waits and there is water enough for it, else a MINUTE goes by");
        CliffCars cars = Due.with("/999");
        cars.drains(1);
        due.is("20 of 19", cars.runs(1), 0);
        due.row("19 and 3", cars, 1, 22);
        due.is("20 of 22", cars.runs(1), 1);
        due.row("2 and 3", cars, 0, 5);
        due.is("11 of 5, 8", cars.runs(2), 0);
        due.row("11 of 5, 8", cars, 2, 11);
        due.is("11 of 11", cars.runs(1), 1);
        due.row("11 of 11", cars, 0, 3);
        due.is("nobody waits", cars.runs(1), 0);
        due.row("nobody waits", cars, 0, 6);
        due.is("TRIPS", cars.count(7), 2);
        due.is("MINUTES", cars.count(8), 6);
    }

    // ---- Terms 2: questions

    private static String withoutRow(CliffCars cars) {
        String shape = Due.shape(cars);
        return shape.substring(0, shape.indexOf(" ROW"));
    }

    private static void unchanged(CliffCars cars, String was) {
        due.is("is " + withoutRow(cars) + ", was " + was, withoutRow(cars).equals(was), true);
        due.is("what was kept", cars.again(0), true);
        due.waits("what was kept", cars, "531/427");
    }

    private static void questionsOfWhatIsToComeChangeNothing() {
        due.about(19, "Questions change nothing");
        CliffCars cars = Scenes.busy();
        String was = withoutRow(cars);
        questionsOfWhatIsToCome(cars);
        unchanged(cars, was);
    }

    private static void questionsOfWhatIsToCome(CliffCars cars) {
        cars.needs();
        cars.later(50);
        cars.done();
        cars.dry(9);
        cars.when(1, 0);
        cars.enough();
        cars.waiting();
        cars.holds(20);
        cars.soonest();
    }

    private static void questionsOfBoardingChangeNothing() {
        due.about(30, "Questions change nothing");
        CliffCars cars = Scenes.busy();
        String was = withoutRow(cars);
        questionsOfBoarding(cars);
        unchanged(cars, was);
    }

    private static void questionsOfBoarding(CliffCars cars) {
        cars.most(20);
        cars.least(2);
        cars.freely();
        cars.best();
        cars.alike();
        cars.parts(1);
        cars.spare();
        cars.odds(5, 5);
    }

    private static void questionsOfGuessesChangeNothing() {
        due.about(38, "Questions change nothing");
        CliffCars cars = Scenes.busy();
        String was = withoutRow(cars);
        questionsOfGuesses(cars);
        unchanged(cars, was);
    }

    private static void questionsOfGuesses(CliffCars cars) {
        cars.fits();
        cars.asks();
        cars.laws();
        cars.looks();
    }

    private static void questionsOfGamesChangeNothing() {
        due.about(46, "Questions change nothing");
        CliffCars cars = Scenes.busy();
        String was = withoutRow(cars);
        questionsOfGames(cars);
        cars.years(LEAST, 60);
        Due.write(cars, "9").law();
        unchanged(cars, was);
    }

    private static void questionsOfGames(CliffCars cars) {
        cars.pails(100);
        cars.rests(9);
        cars.years(7, 60);
    }
}
