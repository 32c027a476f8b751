import java.util.NoSuchElementException;

/** A cliff railway by water, as ../shared/DOC.md promises it. */
public final class CliffCars {
    public static final int NONE = -1;

    private static final int ABOVE = 0;
    private static final int BELOW = 1;
    private static final int ROOM = 5;
    private static final int SETS = 1 << ROOM;
    private static final int MOST_WATER = 999;
    private static final int MOST_CARRIED = 9999;
    private static final int FORESEEN = 99;
    private static final int WELL = -1;
    private static final int NEVER = 1 << 20;
    private static final int DAY_SIGNS = 60;
    private static final int MOST_PAILS = 200;

    private final Slip text;
    private final Numbers told;
    private final Hill hill;
    private final Hill before;
    private final Hill trial;
    private final Past past;
    private final Hill[] stored;
    private final Rule theRule;
    private final Rule otherRule;
    private final RuleReader reader;
    private final Hearsay hearsay;
    private final Sightings sightings;
    private final Groups groups;
    private final Plan plan;
    private final Dice dice;
    private final boolean[] wins;

    public CliffCars() {
        text = new Slip();
        told = new Numbers();
        hill = new Hill();
        before = new Hill();
        trial = new Hill();
        past = new Past();
        stored = new Hill[2];
        theRule = new Rule();
        otherRule = new Rule();
        reader = new RuleReader(text, otherRule);
        hearsay = new Hearsay();
        sightings = new Sightings();
        groups = new Groups();
        plan = new Plan(groups);
        dice = new Dice();
        wins = new boolean[MOST_PAILS + 1];
    }

    // ---- parties

    public int sign(int v) {
        if (text.length() + 4 > Slip.MOST) {
            return NONE;
        }
        for (int shift = 24; shift >= 0; shift -= 8) {
            text.write((v >>> shift) & 255);
        }
        return text.length();
    }

    public boolean end(int n) {
        return text.cutTo(n);
    }

    public int parties() {
        int bad = firstBadOfParties();
        int come = 0;
        if (bad == WELL) {
            come = letCome();
            if (come > 0) {
                past.forgetAll();
            }
        }
        text.clear();
        return bad == WELL ? come : -1 - bad;
    }

    private int firstBadOfParties() {
        int side = ABOVE;
        int room = ROOM - hill.waits(ABOVE);
        for (int p = 0; p < text.length(); p++) {
            int sign = text.at(p);
            if (sign == '/' && side == ABOVE) {
                side = BELOW;
                room = ROOM - hill.waits(BELOW);
            } else if (sign < '1' || sign > '9' || room == 0) {
                return p;
            } else {
                room--;
            }
        }
        boolean slashIsLast = text.at(text.length() - 1) == '/';
        return slashIsLast ? text.length() : WELL;
    }

    private int letCome() {
        int side = ABOVE;
        int come = 0;
        for (int p = 0; p < text.length(); p++) {
            if (text.at(p) == '/') {
                side = BELOW;
            } else if (hill.letCome(side, text.at(p) - '0')) {
                come++;
            }
        }
        return come;
    }

    public int rule() {
        int bad = reader.read();
        text.clear();
        if (bad != WELL) {
            return -1 - bad;
        }
        theRule.copyFrom(otherRule);
        return 0;
    }

    public int party(int side, int k) throws NoSuchElementException {
        if (!hill.has(side, k)) {
            throw new NoSuchElementException();
        }
        return hill.weightAt(side, k);
    }

    public int sheet(int kind, int n, int f, int step) {
        if (kind < 0 || kind > 3 || n > ROOM) {
            return NONE;
        }
        boolean missing = kind == 3;
        if (!missing && n < 0) {
            return -2;
        }
        for (int k = 0; k < hill.waits(ABOVE); k++) {
            boolean listed = !missing && k < n;
            hill.weigh(ABOVE, k, listed ? sheetEntry(kind, f + k * step) : 1);
        }
        return missing ? -3 : hill.weightOf(ABOVE, hill.allOf(ABOVE));
    }

    private static int sheetEntry(int kind, int number) {
        int entry = number;
        if (kind == 0) {
            entry = (byte) number;
        } else if (kind == 1) {
            entry = (short) number;
        }
        return Math.max(1, Math.min(9, entry));
    }

    // ---- trips, minutes

    public int trip() {
        before.copyFrom(hill);
        return remembered(goNext());
    }

    public int sends(int above, int below) {
        if (!hill.mayBoard(ABOVE, above) || !hill.mayBoard(BELOW, below)) {
            return NONE;
        }
        before.copyFrom(hill);
        return remembered(goWith(above, below));
    }

    public int runs(int n) {
        before.copyFrom(hill);
        return remembered(runFor(n));
    }

    public int grips(int v) {
        before.copyFrom(hill);
        return remembered(setGrip(v));
    }

    public int seats(int v) {
        before.copyFrom(hill);
        return remembered(setSeats(v));
    }

    public int leaves(int side, int k) {
        before.copyFrom(hill);
        return remembered(goAway(side, k));
    }

    public int swaps(int side, int k) {
        before.copyFrom(hill);
        return remembered(swapWithNext(side, k));
    }

    public int drains(int n) {
        before.copyFrom(hill);
        return remembered(letOut(n));
    }

    /** An act that answers below 0 has changed nothing, so there is nothing of it to undo. */
    private int remembered(int answer) {
        if (answer >= 0) {
            past.remember(before);
        }
        return answer;
    }

    private int goNext() {
        return goWith(hill.nextOf(ABOVE), hill.nextOf(BELOW));
    }

    private int goWith(int above, int below) {
        if (above == 0 && below == 0) {
            return -2;
        }
        int water = hill.waterFor(above, below);
        if (hill.cistern < water) {
            return -3;
        }
        hill.travel(above, below);
        hill.passMinute(theRule.spring(hill));
        told.tell(water, hill.cistern);
        return Integer.bitCount(above) + Integer.bitCount(below);
    }

    private int runFor(int n) {
        if (n < 0 || n > 60) {
            return NONE;
        }
        int went = 0;
        int stood = 0;
        for (int minute = 0; minute < n; minute++) {
            boolean somebody = !hill.nobodyWaits();
            if (hill.runMinute(theRule)) {
                went++;
            } else if (somebody) {
                stood++;
            }
        }
        told.tell(stood, hill.cistern);
        return went;
    }

    private int setGrip(int v) {
        if (v < 0 || v > 9) {
            return NONE;
        }
        if (v == hill.gripForce) {
            return -2;
        }
        int was = hill.gripForce;
        hill.gripForce = v;
        return 10 + was;
    }

    private int setSeats(int v) {
        if (v < 1 || v > 3) {
            return NONE;
        }
        if (v == hill.seatCount) {
            return -2;
        }
        int was = hill.seatCount;
        hill.seatCount = v;
        return 10 + was;
    }

    private int goAway(int side, int k) {
        if (!hill.has(side, k)) {
            return NONE;
        }
        hill.takeAway(side, 1 << k);
        return hill.waits(side);
    }

    private int swapWithNext(int side, int k) {
        if (!hill.has(side, k)) {
            return NONE;
        }
        if (k + 1 >= hill.waits(side)) {
            return -2;
        }
        hill.exchange(side, k, k + 1);
        return hill.weightAt(side, k);
    }

    private int letOut(int n) {
        if (n < 1 || n > 99) {
            return NONE;
        }
        if (n > hill.cistern) {
            return -2;
        }
        hill.cistern -= n;
        return hill.cistern;
    }

    public int day() {
        int bad = firstBadOfDay();
        if (bad != WELL) {
            text.clear();
            return -1 - bad;
        }
        before.copyFrom(hill);
        int acts = 0;
        boolean stopped = false;
        int p = 0;
        for (int i = 0; i < DAY_SIGNS && p < text.length() && !stopped; i++) {
            stopped = act(p) < 0;
            acts += stopped ? 0 : 1;
            p += 1 + digitsBehind(text.at(p));
        }
        text.clear();
        if (acts > 0) {
            past.remember(before);
        }
        told.tell(stopped ? 1 : 0, hill.cistern);
        return acts;
    }

    private int firstBadOfDay() {
        int limit = Math.min(text.length(), DAY_SIGNS);
        int p = 0;
        for (int i = 0; i < DAY_SIGNS && p < limit; i++) {
            int letter = text.at(p);
            int digits = digitsBehind(letter);
            if (digits == NONE) {
                return p;
            }
            for (int d = 1; d <= digits; d++) {
                if (p + d >= limit || !mayStandBehind(letter, text.at(p + d))) {
                    return p + d;
                }
            }
            p += 1 + digits;
        }
        return text.length() > DAY_SIGNS ? DAY_SIGNS : WELL;
    }

    private static int digitsBehind(int letter) {
        switch (letter) {
            case '*':
                return 0;
            case 'n':
            case 'g':
            case 's':
                return 1;
            case 'l':
            case 'x':
            case 'o':
                return 2;
            default:
                return NONE;
        }
    }

    private static boolean mayStandBehind(int letter, int sign) {
        if (letter == 's') {
            return sign >= '1' && sign <= '3';
        }
        return isDigit(sign);
    }

    private static boolean isDigit(int sign) {
        return sign >= '0' && sign <= '9';
    }

    private int act(int p) {
        int first = text.at(p + 1) - '0';
        int second = text.at(p + 2) - '0';
        switch (text.at(p)) {
            case '*':
                return goNext();
            case 'n':
                return runFor(first);
            case 'g':
                return setGrip(first);
            case 's':
                return setSeats(first);
            case 'l':
                return goAway(first, second);
            case 'x':
                return swapWithNext(first, second);
            case 'o':
                return letOut(10 * first + second);
            default:
                return NONE;
        }
    }

    public int undo() {
        return past.bringBack(hill) ? past.size() : NONE;
    }

    // ---- what is to come, RUNNING

    public int needs() {
        if (hill.nobodyWaits()) {
            return -2;
        }
        int above = hill.nextOf(ABOVE);
        int below = hill.nextOf(BELOW);
        told.tell(hill.weightOf(ABOVE, above), hill.weightOf(BELOW, below));
        return hill.waterFor(above, below);
    }

    public int later(int n) {
        if (n < 0 || n > FORESEEN) {
            return NONE;
        }
        trial.copyFrom(hill);
        for (int minute = 0; minute < n; minute++) {
            trial.runMinute(theRule);
        }
        told.tell(trial.down, trial.up, trial.waits(ABOVE), trial.waits(BELOW));
        return trial.cistern;
    }

    public int done() {
        trial.copyFrom(hill);
        int minutes = runTillNobodyWaits(FORESEEN);
        if (minutes > FORESEEN) {
            return -2;
        }
        told.tell(trial.cistern, trial.tripCount - hill.tripCount);
        return minutes;
    }

    /** Runs the trial; one minute above the limit, if somebody waits behind all of them. */
    private int runTillNobodyWaits(int limit) {
        for (int minute = 0; minute < limit; minute++) {
            if (trial.nobodyWaits()) {
                return minute;
            }
            trial.runMinute(theRule);
        }
        return trial.nobodyWaits() ? limit : limit + 1;
    }

    public int dry(int v) {
        if (v < 0 || v > MOST_WATER) {
            return NONE;
        }
        trial.copyFrom(hill);
        for (int minute = 0; minute <= FORESEEN; minute++) {
            if (trial.cistern < v) {
                told.tell(trial.cistern);
                return minute;
            }
            trial.runMinute(theRule);
        }
        return -2;
    }

    public int when(int side, int k) {
        if (!hill.has(side, k)) {
            return NONE;
        }
        trial.copyFrom(hill);
        int ahead = k;
        int stood = 0;
        for (int minute = 1; minute <= FORESEEN; minute++) {
            int waited = trial.waits(side);
            if (!trial.runMinute(theRule)) {
                stood++;
            }
            ahead -= waited - trial.waits(side);
            if (ahead < 0) {
                told.tell(stood);
                return minute;
            }
        }
        return -2;
    }

    public int enough() {
        if (hill.nobodyWaits()) {
            return -3;
        }
        int first = hill.waterFor(hill.nextOf(ABOVE), hill.nextOf(BELOW));
        for (int cistern = first; cistern <= MOST_WATER; cistern++) {
            int trips = tripsWithoutRest(cistern);
            if (trips != NONE) {
                told.tell(trips);
                return cistern;
            }
        }
        return -2;
    }

    private int tripsWithoutRest(int cistern) {
        trial.copyFrom(hill);
        trial.cistern = cistern;
        for (int trips = 0; trips <= ROOM; trips++) {
            if (trial.nobodyWaits()) {
                return trips;
            }
            if (!trial.runMinute(theRule)) {
                return NONE;
            }
        }
        return NONE;
    }

    public int waiting() {
        if (hill.nobodyWaits()) {
            return -3;
        }
        trial.copyFrom(hill);
        int sum = 0;
        for (int minute = 1; minute <= FORESEEN; minute++) {
            int waited = trial.waitsInAll();
            trial.runMinute(theRule);
            sum += minute * (waited - trial.waitsInAll());
            if (trial.nobodyWaits()) {
                told.tell(minute);
                return sum;
            }
        }
        return -2;
    }

    public int holds(int n) {
        if (n < 0 || n > 60) {
            return NONE;
        }
        int greatest = -2;
        int such = 0;
        for (int grip = 0; grip <= 9; grip++) {
            trial.copyFrom(hill);
            trial.gripForce = grip;
            if (runTillNobodyWaits(n) <= n) {
                greatest = grip;
                such++;
            }
        }
        if (such > 0) {
            told.tell(such);
        }
        return greatest;
    }

    public int soonest() {
        if (hill.nobodyWaits()) {
            return -3;
        }
        int one = minutesBySeats(1);
        int two = minutesBySeats(2);
        int three = minutesBySeats(3);
        int fewest = Math.min(one, Math.min(two, three));
        if (fewest > FORESEEN) {
            return -2;
        }
        told.tell(one, two, three);
        if (fewest == one) {
            return 1;
        }
        return fewest == two ? 2 : 3;
    }

    private int minutesBySeats(int v) {
        trial.copyFrom(hill);
        trial.seatCount = v;
        return runTillNobodyWaits(FORESEEN);
    }

    // ---- who is to board

    public int most(int v) {
        if (v < 0 || v > 99) {
            return NONE;
        }
        groups.readFrom(hill);
        int carried = 0;
        int leastWater = 0;
        int bestAbove = 0;
        int bestBelow = 0;
        for (int above = 0; above <= groups.allAbove; above++) {
            for (int below = 0; below <= groups.allBelow; below++) {
                int size = Integer.bitCount(above) + Integer.bitCount(below);
                int water = groups.waterFor(above, below);
                boolean better = size > carried || size == carried && water < leastWater;
                if (better && water <= v && groups.mayGo(above, below)) {
                    carried = size;
                    leastWater = water;
                    bestAbove = above;
                    bestBelow = below;
                }
            }
        }
        if (carried == 0) {
            return -2;
        }
        told.tell(leastWater, bestAbove, bestBelow);
        return carried;
    }

    public int least(int t) {
        if (t < 1 || t > 5) {
            return NONE;
        }
        groups.readFrom(hill);
        plan.start();
        for (int trips = 1; trips < t; trips++) {
            plan.allowOneTripMore();
        }
        int water = plan.chooseFirst();
        if (water >= NEVER) {
            return -2;
        }
        told.tell(plan.firstAbove, plan.firstBelow);
        return water;
    }

    /** A trip without water has somebody from above in it, so that more than ROOM of them are none. */
    public int freely() {
        if (hill.nobodyWaits()) {
            told.tell();
            return 0;
        }
        groups.readFrom(hill);
        plan.start();
        for (int trips = 1; trips <= ROOM; trips++) {
            if (plan.chooseFirst() == 0) {
                told.tell(plan.firstAbove, plan.firstBelow);
                return trips;
            }
            plan.allowOneTripMore();
        }
        return -2;
    }

    public int best() {
        int leastWater = NEVER;
        int bestSide = 0;
        int bestFirst = 0;
        int bestSecond = 0;
        for (int side = ABOVE; side <= BELOW; side++) {
            for (int i = 0; i < hill.waits(side); i++) {
                for (int j = i + 1; j < hill.waits(side); j++) {
                    trial.copyFrom(hill);
                    trial.exchange(side, i, j);
                    int water = waterOfTrial();
                    if (water < leastWater) {
                        leastWater = water;
                        bestSide = side;
                        bestFirst = i;
                        bestSecond = j;
                    }
                }
            }
        }
        if (leastWater == NEVER) {
            return -2;
        }
        trial.copyFrom(hill);
        told.tell(bestSide, bestFirst, bestSecond, waterOfTrial());
        return leastWater;
    }

    private int waterOfTrial() {
        int water = 0;
        for (int i = 0; i < ROOM && !trial.nobodyWaits(); i++) {
            water += trial.waterFor(trial.nextOf(ABOVE), trial.nextOf(BELOW));
            trial.takeNext();
        }
        return water;
    }

    public int alike() {
        groups.readFrom(hill);
        int pairs = 0;
        int heaviest = 0;
        int bestAbove = 0;
        int bestBelow = 0;
        for (int above = 1; above <= groups.allAbove; above++) {
            int weight = groups.weightAbove(above);
            for (int below = 1; below <= groups.allBelow; below++) {
                if (groups.weightBelow(below) == weight) {
                    pairs++;
                    if (weight > heaviest) {
                        heaviest = weight;
                        bestAbove = above;
                        bestBelow = below;
                    }
                }
            }
        }
        if (pairs == 0) {
            told.tell();
        } else {
            told.tell(heaviest, bestAbove, bestBelow);
        }
        return pairs;
    }

    public int parts(int side) {
        if (side != ABOVE && side != BELOW) {
            return NONE;
        }
        int all = hill.weightOf(side, hill.allOf(side));
        int leastApart = NEVER;
        int part = 0;
        for (int set = 0; set <= hill.allOf(side); set++) {
            int apart = Math.abs(all - 2 * hill.weightOf(side, set));
            if (apart < leastApart) {
                leastApart = apart;
                part = set;
            }
        }
        told.tell(part, hill.weightOf(side, part));
        return leastApart;
    }

    public int spare() {
        trial.copyFrom(hill);
        int sum = 0;
        int such = 0;
        int trips = 0;
        for (int i = 0; i < ROOM && !trial.nobodyWaits(); i++) {
            int upper = trial.weightOf(ABOVE, trial.nextOf(ABOVE));
            int lower = trial.weightOf(BELOW, trial.nextOf(BELOW));
            int more = upper - lower - trial.gripForce;
            if (more > 0) {
                sum += more;
                such++;
            }
            trips++;
            trial.takeNext();
        }
        told.tell(such, trips);
        return sum;
    }

    // ---- chances

    public int odds(int p, int v) {
        if (p < 0 || p > 10 || v < 0 || v > 99) {
            return NONE;
        }
        int nextAbove = hill.nextOf(ABOVE);
        int nextBelow = hill.nextOf(BELOW);
        int invited = Integer.bitCount(nextAbove) + Integer.bitCount(nextBelow);
        long good = 0;
        for (int above = 0; above <= nextAbove; above++) {
            for (int below = 0; below <= nextBelow; below++) {
                if (hill.waterFor(above, below) <= v) {
                    int come = Integer.bitCount(above) + Integer.bitCount(below);
                    good += power(p, come) * power(10 - p, invited - come);
                }
            }
        }
        tellFraction(good, power(10, invited));
        return 0;
    }

    private static long power(int base, int times) {
        long product = 1;
        for (int i = 0; i < times; i++) {
            product *= base;
        }
        return product;
    }

    private void tellFraction(long upper, long lower) {
        long divisor = greatestDivisor(upper, lower);
        if (divisor == 0) {
            told.tell(0, 1);
        } else {
            told.tell(upper / divisor, lower / divisor);
        }
    }

    private static long greatestDivisor(long x, long y) {
        long greater = x;
        long lesser = y;
        for (int i = 0; i < 100 && lesser != 0; i++) {
            long rest = greater % lesser;
            greater = lesser;
            lesser = rest;
        }
        return greater;
    }

    // ---- which party it was

    public int heard(int what, int v) {
        if (!mayBeHeard(what, v)) {
            return NONE;
        }
        return hearsay.add(what, v) ? hearsay.size() : NONE;
    }

    private static boolean mayBeHeard(int what, int v) {
        switch (what) {
            case 0:
            case 3:
                return v == 0 || v == 1;
            case 1:
                return v >= 1 && v <= 9;
            case 2:
                return v >= 0 && v < ROOM;
            default:
                return false;
        }
    }

    public int forget() {
        return hearsay.clear();
    }

    public int fits() {
        int fitting = hearsay.fittingOf(hill);
        told.tell(Integer.bitCount(fitting));
        return fitting;
    }

    public int asks() {
        int fitting = hearsay.fittingOf(hill);
        if (fitting == 0) {
            return -2;
        }
        int all = Integer.bitCount(fitting);
        int fewest = NEVER;
        int question = 0;
        for (int asked = 0; asked < 40; asked++) {
            if (mayBeHeard(asked / 10, asked % 10)) {
                int so = Integer.bitCount(fitting & hill.suchAs(asked / 10, asked % 10));
                int left = Math.max(so, all - so);
                if (left < fewest) {
                    fewest = left;
                    question = asked;
                }
            }
        }
        told.tell(fewest);
        return question;
    }

    // ---- laws of brakes

    public int saw(int x, int y, int is) {
        if (x < 0 || x > 30 || y < 0 || y > 30 || is < 0 || is > 1) {
            return NONE;
        }
        return sightings.add(x - y, is == 1) ? sightings.size() : NONE;
    }

    public int denies() {
        return sightings.clear();
    }

    public int laws() {
        long fitting = sightings.fittingLaws();
        if (fitting == 0) {
            told.tell();
            return 0;
        }
        int first = Long.numberOfTrailingZeros(fitting);
        told.tell(Sightings.leastOf(first), Sightings.greatestOf(first));
        return Long.bitCount(fitting);
    }

    public int looks() {
        long fitting = sightings.fittingLaws();
        if (fitting == 0) {
            return -2;
        }
        int all = Long.bitCount(fitting);
        int fewest = NEVER;
        int look = 0;
        for (int more = 0; more <= 30; more++) {
            int run = Long.bitCount(fitting & Sightings.lawsThatRun(more));
            int left = Math.max(run, all - run);
            if (left < fewest) {
                fewest = left;
                look = more;
            }
        }
        told.tell(fewest);
        return look;
    }

    // ---- pails, sponges, rules, years

    public int pails(int n) {
        if (n < 0 || n > MOST_PAILS) {
            return NONE;
        }
        wins[0] = false;
        for (int left = 1; left <= n; left++) {
            wins[left] = leastWinningTake(left) > 0;
        }
        int take = leastWinningTake(n);
        if (take == 0) {
            told.tell();
            return 0;
        }
        told.tell(take);
        return 1;
    }

    /** Reads only what is known of shorter rows; 0 if no take wins. */
    private int leastWinningTake(int left) {
        if (left < 1 || left > MOST_PAILS) {
            return 0;
        }
        if (!wins[left - 1]) {
            return 1;
        }
        return left % 2 == 0 && !wins[left / 2] ? left / 2 : 0;
    }

    public int rests(int v) {
        if (v < 0 || v > 20) {
            return NONE;
        }
        int pairs = 0;
        int leastPair = 0;
        for (int pair = 99; pair >= 0; pair--) {
            int x = pair / 10;
            int y = pair % 10;
            if (isBestAgainst(x, y, v) && isBestAgainst(y, x, v)) {
                pairs++;
                leastPair = pair;
            }
        }
        if (pairs == 0) {
            told.tell();
        } else {
            told.tell(leastPair / 10, leastPair % 10);
        }
        return pairs;
    }

    private static boolean isBestAgainst(int own, int other, int puddle) {
        int has = soaked(own, other, puddle);
        for (int instead = 0; instead <= 9; instead++) {
            if (soaked(instead, other, puddle) > has) {
                return false;
            }
        }
        return true;
    }

    private static int soaked(int own, int other, int puddle) {
        int left = puddle - own - other;
        return left >= 0 ? own + left / 4 : own / 2 - 1;
    }

    public int law() {
        int bad = reader.read();
        text.clear();
        if (bad != WELL) {
            return -10000 - bad;
        }
        int otherTrips = runTwentyBy(otherRule);
        int otherCistern = trial.cistern;
        int trips = runTwentyBy(theRule);
        told.tell(otherCistern, trial.cistern, otherTrips, trips);
        return otherCistern - trial.cistern;
    }

    private int runTwentyBy(Rule rule) {
        trial.copyFrom(hill);
        for (int minute = 0; minute < 20; minute++) {
            trial.runMinute(rule);
        }
        return trial.tripCount - hill.tripCount;
    }

    public int years(int seed, int n) {
        if (n < 1 || n > 60) {
            return NONE;
        }
        trial.copyFrom(hill);
        dice.startFrom(seed);
        for (int time = 0; time < n; time++) {
            int event = dice.draw(4);
            if (event == 0) {
                trial.runMinute(theRule);
            } else if (event == 3) {
                trial.gripForce = dice.draw(10);
            } else {
                trial.letCome(event == 1 ? ABOVE : BELOW, dice.draw(9) + 1);
            }
        }
        told.tell(trial.down + trial.up, trial.cistern);
        return trial.waitsInAll();
    }

    // ---- kept

    public boolean keep(int i) {
        if (i < 0 || i >= stored.length) {
            return false;
        }
        Hill place = stored[i] == null ? new Hill() : stored[i];
        place.copyFrom(hill);
        stored[i] = place;
        return true;
    }

    public boolean again(int i) {
        if (i < 0 || i >= stored.length || stored[i] == null) {
            return false;
        }
        hill.copyFrom(stored[i]);
        past.forgetAll();
        return true;
    }

    public int count(int what) {
        switch (what) {
            case 0:
                return hill.waits(ABOVE);
            case 1:
                return hill.waits(BELOW);
            case 2:
                return hill.seatCount;
            case 3:
                return hill.gripForce;
            case 4:
                return hill.cistern;
            case 5:
                return hill.down;
            case 6:
                return hill.up;
            case 7:
                return hill.tripCount;
            case 8:
                return hill.minuteCount;
            case 9:
                return theRule.spring(hill);
            case 10:
                return hearsay.size();
            case 11:
                return sightings.size();
            case 12:
                return past.size();
            case 13:
                return told.size();
            case 14:
                return text.length();
            default:
                return NONE;
        }
    }

    public long row(int i) throws NoSuchElementException {
        if (!told.has(i)) {
            throw new NoSuchElementException();
        }
        return told.at(i);
    }

    /** THE TEXT. */
    private static final class Slip {
        static final int MOST = 80;
        static final int NO_SIGN = -1;

        private final int[] signs = new int[MOST];
        private int length;

        int length() {
            return length;
        }

        int at(int p) {
            return p >= 0 && p < length && p < MOST ? signs[p] : NO_SIGN;
        }

        void write(int sign) {
            if (length < MOST) {
                signs[length] = sign;
                length++;
            }
        }

        boolean cutTo(int n) {
            if (n < 0 || n > length) {
                return false;
            }
            length = n;
            return true;
        }

        void clear() {
            length = 0;
        }
    }

    /** The ROW. */
    private static final class Numbers {
        private final long[] values = new long[4];
        private int size;

        int size() {
            return size;
        }

        boolean has(int i) {
            return i >= 0 && i < size && i < values.length;
        }

        long at(int i) {
            return has(i) ? values[i] : 0;
        }

        void tell() {
            size = 0;
        }

        void tell(long first) {
            values[0] = first;
            size = 1;
        }

        void tell(long first, long second) {
            tell(first);
            values[1] = second;
            size = 2;
        }

        void tell(long first, long second, long third) {
            tell(first, second);
            values[2] = third;
            size = 3;
        }

        void tell(long first, long second, long third, long fourth) {
            tell(first, second, third);
            values[3] = fourth;
            size = 4;
        }
    }

    /** What undo() brings back: who waits, seats, grip, water, what was carried, time. */
    private static final class Hill {
        private final int[] weights = new int[2 * ROOM];
        private final int[] lengths = new int[2];
        private int seatCount = 2;
        private int gripForce = 2;
        private int cistern = 20;
        private int down;
        private int up;
        private int tripCount;
        private int minuteCount;

        void copyFrom(Hill other) {
            System.arraycopy(other.weights, 0, weights, 0, weights.length);
            System.arraycopy(other.lengths, 0, lengths, 0, lengths.length);
            seatCount = other.seatCount;
            gripForce = other.gripForce;
            cistern = other.cistern;
            down = other.down;
            up = other.up;
            tripCount = other.tripCount;
            minuteCount = other.minuteCount;
        }

        int waits(int side) {
            return side == ABOVE || side == BELOW ? lengths[side] : 0;
        }

        int waitsInAll() {
            return waits(ABOVE) + waits(BELOW);
        }

        boolean nobodyWaits() {
            return waitsInAll() == 0;
        }

        boolean has(int side, int k) {
            return k >= 0 && k < waits(side) && k < ROOM;
        }

        int weightAt(int side, int k) {
            return has(side, k) ? weights[side * ROOM + k] : 0;
        }

        void weigh(int side, int k, int weight) {
            if (has(side, k)) {
                weights[side * ROOM + k] = weight;
            }
        }

        boolean letCome(int side, int weight) {
            int place = waits(side);
            if (side != ABOVE && side != BELOW || place >= ROOM) {
                return false;
            }
            lengths[side] = place + 1;
            weigh(side, place, weight);
            return true;
        }

        int allOf(int side) {
            return (1 << waits(side)) - 1;
        }

        int nextOf(int side) {
            return (1 << Math.min(seatCount, waits(side))) - 1;
        }

        boolean mayBoard(int side, int set) {
            return (set & ~allOf(side)) == 0 && Integer.bitCount(set) <= seatCount;
        }

        int weightOf(int side, int set) {
            int sum = 0;
            if (side == ABOVE || side == BELOW) {
                for (int k = 0; k < ROOM && k < lengths[side]; k++) {
                    sum += (set >> k & 1) * weights[side * ROOM + k];
                }
            }
            return sum;
        }

        int waterFor(int above, int below) {
            return Math.max(0, weightOf(BELOW, below) + gripForce - weightOf(ABOVE, above));
        }

        void exchange(int side, int i, int j) {
            int weight = weightAt(side, i);
            weigh(side, i, weightAt(side, j));
            weigh(side, j, weight);
        }

        void takeAway(int side, int set) {
            if (side != ABOVE && side != BELOW) {
                return;
            }
            int stay = 0;
            for (int k = 0; k < ROOM && k < lengths[side]; k++) {
                if ((set >> k & 1) == 0) {
                    weights[side * ROOM + stay] = weights[side * ROOM + k];
                    stay++;
                }
            }
            lengths[side] = stay;
        }

        void takeNext() {
            takeAway(ABOVE, nextOf(ABOVE));
            takeAway(BELOW, nextOf(BELOW));
        }

        /** The caller has seen that there is water enough; the trip's MINUTE is still to go by. */
        void travel(int above, int below) {
            cistern -= waterFor(above, below);
            down = Math.min(MOST_CARRIED, down + weightOf(ABOVE, above));
            up = Math.min(MOST_CARRIED, up + weightOf(BELOW, below));
            takeAway(ABOVE, above);
            takeAway(BELOW, below);
            tripCount++;
        }

        void passMinute(int spring) {
            cistern = Math.min(MOST_WATER, cistern + spring);
            minuteCount++;
        }

        /** Tells whether there was a TRIP. */
        boolean runMinute(Rule rule) {
            int above = nextOf(ABOVE);
            int below = nextOf(BELOW);
            boolean goes = !nobodyWaits() && cistern >= waterFor(above, below);
            if (goes) {
                travel(above, below);
            }
            passMinute(rule.spring(this));
            return goes;
        }

        /** Parties (bits: k ABOVE, ROOM and k BELOW) of which it may be heard. */
        int suchAs(int what, int v) {
            int such = 0;
            for (int side = ABOVE; side <= BELOW; side++) {
                for (int k = 0; k < waits(side); k++) {
                    if (isSo(side, k, what, v)) {
                        such |= 1 << (side * ROOM + k);
                    }
                }
            }
            return such;
        }

        private boolean isSo(int side, int k, int what, int v) {
            switch (what) {
                case 0:
                    return side == v;
                case 1:
                    return weightAt(side, k) >= v;
                case 2:
                    return k == v;
                case 3:
                    return (k < seatCount) == (v == 1);
                default:
                    return false;
            }
        }
    }

    /** Hills as they were, the latest last. */
    private static final class Past {
        private static final int MOST = 12;

        private final Hill[] hills = new Hill[MOST];
        private int size;

        int size() {
            return size;
        }

        void forgetAll() {
            size = 0;
        }

        void remember(Hill was) {
            if (size >= MOST) {
                dropOldest();
            }
            Hill place = hills[size] == null ? new Hill() : hills[size];
            place.copyFrom(was);
            hills[size] = place;
            size++;
        }

        /** The oldest one's object goes behind the others, to be used again. */
        private void dropOldest() {
            Hill oldest = hills[0];
            for (int i = 1; i < MOST; i++) {
                hills[i - 1] = hills[i];
            }
            hills[MOST - 1] = oldest;
            size = MOST - 1;
        }

        boolean bringBack(Hill now) {
            if (size <= 0 || size > MOST || hills[size - 1] == null) {
                return false;
            }
            size--;
            now.copyFrom(hills[size]);
            return true;
        }
    }

    /**
     * A rule as steps, operands ahead of what joins them: a number is itself, any other step is
     * the sign that it stands for, below 0.
     */
    private static final class Rule {
        static final int MOST = 40;
        static final int NEGATE = -1;
        private static final int WITHOUT_RULE = 3;

        private final int[] steps = new int[MOST];
        private final int[] stack = new int[MOST];
        private int size;

        void clear() {
            size = 0;
        }

        void add(int step) {
            if (size < MOST) {
                steps[size] = step;
                size++;
            }
        }

        void copyFrom(Rule other) {
            System.arraycopy(other.steps, 0, steps, 0, steps.length);
            size = other.size;
        }

        int spring(Hill hill) {
            if (size == 0) {
                return WITHOUT_RULE;
            }
            int top = 0;
            for (int i = 0; i < size && i < MOST; i++) {
                int step = steps[i];
                if (step == NEGATE) {
                    if (top >= 1) {
                        stack[top - 1] = -stack[top - 1];
                    }
                } else if (joins(-step)) {
                    if (top >= 2) {
                        stack[top - 2] = join(-step, stack[top - 2], stack[top - 1]);
                        top--;
                    }
                } else if (top < MOST) {
                    stack[top] = step >= 0 ? step : named(-step, hill);
                    top++;
                }
            }
            return Math.max(0, Math.min(9, stack[0]));
        }

        static boolean joins(int sign) {
            switch (sign) {
                case '<':
                case '>':
                case '=':
                case '+':
                case '-':
                case '*':
                case '/':
                    return true;
                default:
                    return false;
            }
        }

        private static int join(int sign, int x, int y) {
            switch (sign) {
                case '<':
                    return x < y ? 1 : 0;
                case '>':
                    return x > y ? 1 : 0;
                case '=':
                    return x == y ? 1 : 0;
                case '+':
                    return x + y;
                case '-':
                    return x - y;
                case '*':
                    return x * y;
                default:
                    return y == 0 ? 0 : x / y;
            }
        }

        static boolean names(int sign) {
            switch (sign) {
                case 'n':
                case 'c':
                case 'u':
                case 'd':
                case 'w':
                case 'g':
                case 't':
                    return true;
                default:
                    return false;
            }
        }

        private static int named(int sign, Hill hill) {
            switch (sign) {
                case 'n':
                    return hill.minuteCount % 7;
                case 'c':
                    return hill.cistern;
                case 'u':
                    return hill.waits(ABOVE);
                case 'd':
                    return hill.waits(BELOW);
                case 'w':
                    return hill.weightOf(ABOVE, SETS - 1);
                case 'g':
                    return hill.gripForce;
                case 't':
                    return hill.tripCount % 5;
                default:
                    return 0;
            }
        }
    }

    /** Reads THE TEXT as a rule, without recursion: what still waits for its operand is put by. */
    private static final class RuleReader {
        private static final int DEEPEST = 4;
        private static final int LOOSEST = 1;
        private static final int TIGHTEST = 4;

        private final Slip text;
        private final Rule into;
        private final int[] shelf = new int[Rule.MOST];
        private int shelfSize;
        private int place;
        private int depth;
        private int comparedDepths;
        private boolean thingIsDue;

        RuleReader(Slip text, Rule into) {
            this.text = text;
            this.into = into;
        }

        /** WELL, or the place of the sign that can't stand there. */
        int read() {
            into.clear();
            if (text.length() == 0) {
                return WELL;
            }
            shelfSize = 0;
            place = 0;
            depth = 0;
            comparedDepths = 0;
            thingIsDue = true;
            int limit = Math.min(text.length(), Rule.MOST);
            for (int i = 0; i < Rule.MOST && place < limit; i++) {
                boolean stands = thingIsDue ? takeThing(text.at(place)) : takeJoin(text.at(place));
                if (!stands) {
                    return place;
                }
            }
            if (thingIsDue || depth > 0 || text.length() > limit) {
                return limit;
            }
            bringBack(LOOSEST);
            return WELL;
        }

        private boolean takeThing(int sign) {
            if (isDigit(sign)) {
                takeNumber();
                thingIsDue = false;
                return true;
            }
            if (Rule.names(sign)) {
                into.add(-sign);
                thingIsDue = false;
            } else if (sign == '-') {
                putBy(Rule.NEGATE);
            } else if (sign == '(' && depth < DEEPEST) {
                putBy(sign);
                depth++;
                comparedDepths &= ~(1 << depth);
            } else {
                return false;
            }
            place++;
            return true;
        }

        private void takeNumber() {
            int number = 0;
            for (int i = 0; i < 3 && place < Rule.MOST && isDigit(text.at(place)); i++) {
                number = 10 * number + text.at(place) - '0';
                place++;
            }
            into.add(number);
        }

        private boolean takeJoin(int sign) {
            boolean compares = tightness(-sign) == LOOSEST;
            boolean hasCompared = (comparedDepths >> depth & 1) == 1;
            if (sign == ')' && depth > 0) {
                bringBack(LOOSEST);
                dropBracket();
            } else if (Rule.joins(sign) && !(compares && hasCompared)) {
                bringBack(tightness(-sign));
                putBy(-sign);
                comparedDepths |= compares ? 1 << depth : 0;
                thingIsDue = true;
            } else {
                return false;
            }
            place++;
            return true;
        }

        private void dropBracket() {
            depth--;
            if (shelfSize > 0) {
                shelfSize--;
            }
        }

        private void putBy(int step) {
            if (shelfSize < Rule.MOST) {
                shelf[shelfSize] = step;
                shelfSize++;
            }
        }

        /** Ends at a bracket, too: that binds nothing. */
        private void bringBack(int loosest) {
            for (int i = 0; i < Rule.MOST && shelfSize > 0; i++) {
                int step = shelf[shelfSize - 1];
                if (tightness(step) < loosest) {
                    return;
                }
                into.add(step);
                shelfSize--;
            }
        }

        private static int tightness(int step) {
            switch (step) {
                case Rule.NEGATE:
                    return TIGHTEST;
                case -'*':
                case -'/':
                    return 3;
                case -'+':
                case -'-':
                    return 2;
                case -'<':
                case -'>':
                case -'=':
                    return LOOSEST;
                default:
                    return 0;
            }
        }
    }

    /** What was heard of a party. */
    private static final class Hearsay {
        private static final int MOST = 12;

        private final int[] whats = new int[MOST];
        private final int[] values = new int[MOST];
        private int size;

        int size() {
            return size;
        }

        boolean add(int what, int v) {
            if (size >= MOST) {
                return false;
            }
            whats[size] = what;
            values[size] = v;
            size++;
            return true;
        }

        int clear() {
            int had = size;
            size = 0;
            return had;
        }

        int fittingOf(Hill hill) {
            int fitting = hill.allOf(ABOVE) | hill.allOf(BELOW) << ROOM;
            for (int i = 0; i < size && i < MOST; i++) {
                fitting &= hill.suchAs(whats[i], values[i]);
            }
            return fitting;
        }
    }

    /** What was seen of brakes. Laws are bits, in the order of their rows a, b. */
    private static final class Sightings {
        private static final int MOST = 10;
        private static final int LAWS = 40;
        private static final long ALL_LAWS = (1L << LAWS) - 1;

        private final int[] excesses = new int[MOST];
        private final boolean[] ran = new boolean[MOST];
        private int size;

        int size() {
            return size;
        }

        boolean add(int excess, boolean isRunning) {
            if (size >= MOST) {
                return false;
            }
            excesses[size] = excess;
            ran[size] = isRunning;
            size++;
            return true;
        }

        int clear() {
            int had = size;
            size = 0;
            return had;
        }

        long fittingLaws() {
            long fitting = ALL_LAWS;
            for (int i = 0; i < size && i < MOST; i++) {
                long running = lawsThatRun(excesses[i]);
                fitting &= ran[i] ? running : ~running;
            }
            return fitting;
        }

        static int leastOf(int law) {
            return law / 8;
        }

        static int greatestOf(int law) {
            return 5 + law % 8;
        }

        static long lawsThatRun(int excess) {
            long running = 0;
            for (int law = 0; law < LAWS; law++) {
                if (excess >= leastOf(law) && excess <= greatestOf(law)) {
                    running |= 1L << law;
                }
            }
            return running;
        }
    }

    /** Weights of all sets of those who wait, looked up by set. */
    private static final class Groups {
        private final int[] upper = new int[SETS];
        private final int[] lower = new int[SETS];
        private int allAbove;
        private int allBelow;
        private int seatCount;
        private int gripForce;

        void readFrom(Hill hill) {
            allAbove = hill.allOf(ABOVE);
            allBelow = hill.allOf(BELOW);
            seatCount = hill.seatCount;
            gripForce = hill.gripForce;
            for (int set = 0; set < SETS; set++) {
                upper[set] = hill.weightOf(ABOVE, set);
                lower[set] = hill.weightOf(BELOW, set);
            }
        }

        int weightAbove(int set) {
            return set >= 0 && set < SETS ? upper[set] : 0;
        }

        int weightBelow(int set) {
            return set >= 0 && set < SETS ? lower[set] : 0;
        }

        boolean mayGo(int above, int below) {
            return (above | below) != 0
                    && (above & ~allAbove) == 0
                    && (below & ~allBelow) == 0
                    && Integer.bitCount(above) <= seatCount
                    && Integer.bitCount(below) <= seatCount;
        }

        int waterFor(int above, int below) {
            return Math.max(0, weightBelow(below) + gripForce - weightAbove(above));
        }
    }

    /** The least water by which sets are carried in just so many trips. */
    private static final class Plan {
        private static final int LAST = SETS * SETS - 1;

        private final Groups groups;
        private final int[] known = new int[SETS * SETS];
        private final int[] next = new int[SETS * SETS];
        private int trips;
        private int firstAbove;
        private int firstBelow;

        Plan(Groups groups) {
            this.groups = groups;
        }

        /** By no trip nobody is carried, and only nobody. */
        void start() {
            for (int pair = 0; pair < known.length; pair++) {
                known[pair] = NEVER;
            }
            known[0] = 0;
            trips = 0;
        }

        void allowOneTripMore() {
            trips++;
            for (int above = 0; above <= groups.allAbove; above++) {
                for (int below = 0; below <= groups.allBelow; below++) {
                    int pair = above * SETS + below;
                    next[pair & LAST] = haveSeats(above, below) ? leastFor(above, below) : NEVER;
                }
            }
            System.arraycopy(next, 0, known, 0, known.length);
        }

        private boolean haveSeats(int above, int below) {
            int places = trips * groups.seatCount;
            return Integer.bitCount(above) <= places && Integer.bitCount(below) <= places;
        }

        /** Which trip goes first is all one for the water: it may be that of the first party. */
        private int leastFor(int above, int below) {
            if (above == 0 && below == 0) {
                return NEVER;
            }
            int mustAbove = above & -above;
            int mustBelow = above == 0 ? below & -below : 0;
            int mayAbove = above ^ mustAbove;
            int least = NEVER;
            int part = mayAbove;
            for (int i = 0; i < SETS; i++) {
                int group = part | mustAbove;
                if (Integer.bitCount(group) <= groups.seatCount) {
                    least = Math.min(least, leastWith(group, above ^ group, below, mustBelow));
                }
                if (part == 0) {
                    break;
                }
                part = (part - 1) & mayAbove;
            }
            return least;
        }

        private int leastWith(int group, int aboveLeft, int below, int mustBelow) {
            int mayBelow = below ^ mustBelow;
            int least = NEVER;
            int part = mayBelow;
            for (int i = 0; i < SETS; i++) {
                int lowerGroup = part | mustBelow;
                int rest = known[(aboveLeft * SETS + (below ^ lowerGroup)) & LAST];
                if (rest < least && Integer.bitCount(lowerGroup) <= groups.seatCount) {
                    least = Math.min(least, rest + groups.waterFor(group, lowerGroup));
                }
                if (part == 0) {
                    break;
                }
                part = (part - 1) & mayBelow;
            }
            return least;
        }

        /** One trip more for all, its groups the least row of those as good; NEVER if none is. */
        int chooseFirst() {
            int least = NEVER;
            for (int above = 0; above <= groups.allAbove; above++) {
                for (int below = 0; below <= groups.allBelow; below++) {
                    int left = (groups.allAbove ^ above) * SETS + (groups.allBelow ^ below);
                    int rest = known[left & LAST];
                    if (rest < least && groups.mayGo(above, below)) {
                        int water = rest + groups.waterFor(above, below);
                        if (water < least) {
                            least = water;
                            firstAbove = above;
                            firstBelow = below;
                        }
                    }
                }
            }
            return least;
        }
    }

    /** DRAWS. */
    private static final class Dice {
        private int state;

        void startFrom(int seed) {
            state = seed;
        }

        int draw(int n) {
            state = state * 1103515245 + 12345;
            return n > 0 ? (state >>> 16) % n : 0;
        }
    }
}
