import java.util.ArrayDeque;
import java.util.ArrayList;
import java.util.Arrays;
import java.util.Deque;
import java.util.HashMap;
import java.util.List;
import java.util.Map;
import java.util.NoSuchElementException;
import java.util.function.IntPredicate;

/**
 * The document written down a second time, as straight as can be and by other means than CliffCars
 * (lists, copies, texts read anew, all orders tried), so that a slip in one shows against the other.
 */
public final class NaiveCars {
    static final int NONE = -1;

    static final class World {
        List<Integer> above = new ArrayList<>();
        List<Integer> below = new ArrayList<>();
        int seats = 2;
        int grip = 2;
        int cistern = 20;
        int down = 0;
        int up = 0;
        int trips = 0;
        int minutes = 0;

        World copy() {
            World w = new World();
            w.above = new ArrayList<>(above);
            w.below = new ArrayList<>(below);
            w.seats = seats;
            w.grip = grip;
            w.cistern = cistern;
            w.down = down;
            w.up = up;
            w.trips = trips;
            w.minutes = minutes;
            return w;
        }

        List<Integer> side(int side) {
            return side == 0 ? above : side == 1 ? below : new ArrayList<>();
        }

        boolean empty() {
            return above.isEmpty() && below.isEmpty();
        }

        int next(int side) {
            int bits = 0;
            for (int k = 0; k < seats && k < side(side).size(); k++) {
                bits += 1 << k;
            }
            return bits;
        }

        int weight(int side, int bits) {
            int sum = 0;
            for (int k = 0; k < side(side).size(); k++) {
                if ((bits & 1 << k) != 0) {
                    sum += side(side).get(k);
                }
            }
            return sum;
        }

        int water(int a, int b) {
            int water = weight(1, b) + grip - weight(0, a);
            return water < 0 ? 0 : water;
        }

        void gone(int side, int bits) {
            for (int k = 4; k >= 0; k--) {
                if ((bits & 1 << k) != 0) {
                    side(side).remove(k);
                }
            }
        }

        boolean travel(int a, int b, String rule) {
            int water = water(a, b);
            if (a + b == 0 || cistern < water) {
                return false;
            }
            cistern -= water;
            down = Math.min(9999, down + weight(0, a));
            up = Math.min(9999, up + weight(1, b));
            gone(0, a);
            gone(1, b);
            trips++;
            minute(rule);
            return true;
        }

        void minute(String rule) {
            cistern = Math.min(999, cistern + spring(rule));
            minutes++;
        }

        int spring(String rule) {
            return rule.isEmpty() ? 3 : Math.max(0, Math.min(9, new Formula(rule, this).value()));
        }

        boolean running(String rule) {
            if (travel(next(0), next(1), rule)) {
                return true;
            }
            minute(rule);
            return false;
        }
    }

    /** Reads and reckons at once; throws at what is no whole expression. */
    static final class Formula {
        private final String text;
        private final World world;
        private int p = 0;

        Formula(String text, World world) {
            this.text = text;
            this.world = world;
        }

        static boolean whole(String text) {
            try {
                new Formula(text, new World()).value();
                return true;
            } catch (IllegalArgumentException e) {
                return false;
            }
        }

        /** Some end makes it whole. */
        static boolean canGoOn(String text) {
            for (String thing : new String[] {"", "0"}) {
                for (String close : new String[] {"", ")", "))", ")))", "))))"}) {
                    if (whole(text + thing + close)) {
                        return true;
                    }
                }
            }
            return false;
        }

        static int bad(String text) {
            if (text.isEmpty()) {
                return -1;
            }
            for (int n = 1; n <= text.length(); n++) {
                if (n > 40 || !canGoOn(text.substring(0, n))) {
                    return n - 1;
                }
            }
            return whole(text) ? -1 : text.length();
        }

        int value() {
            int v = compare(0);
            if (p < text.length()) {
                throw new IllegalArgumentException();
            }
            return v;
        }

        private char peek() {
            return p < text.length() ? text.charAt(p) : (char) 0;
        }

        private int compare(int deep) {
            int x = sum(deep);
            char c = peek();
            if (c != '<' && c != '>' && c != '=') {
                return x;
            }
            p++;
            int y = sum(deep);
            return (c == '<' ? x < y : c == '>' ? x > y : x == y) ? 1 : 0;
        }

        private int sum(int deep) {
            int x = product(deep);
            while (peek() == '+' || peek() == '-') {
                char c = text.charAt(p++);
                int y = product(deep);
                x = c == '+' ? x + y : x - y;
            }
            return x;
        }

        private int product(int deep) {
            int x = minus(deep);
            while (peek() == '*' || peek() == '/') {
                char c = text.charAt(p++);
                int y = minus(deep);
                x = c == '*' ? x * y : y == 0 ? 0 : x / y;
            }
            return x;
        }

        private int minus(int deep) {
            if (peek() == '-') {
                p++;
                return -minus(deep);
            }
            return thing(deep);
        }

        private int thing(int deep) {
            char c = peek();
            if (c == '(' && deep < 4) {
                p++;
                int x = compare(deep + 1);
                if (peek() != ')') {
                    throw new IllegalArgumentException();
                }
                p++;
                return x;
            }
            if (c >= '0' && c <= '9') {
                int from = p;
                while (p - from < 3 && peek() >= '0' && peek() <= '9') {
                    p++;
                }
                return Integer.parseInt(text.substring(from, p));
            }
            p++;
            switch (c) {
                case 'n': return world.minutes % 7;
                case 'c': return world.cistern;
                case 'u': return world.above.size();
                case 'd': return world.below.size();
                case 'w': return world.weight(0, 31);
                case 'g': return world.grip;
                case 't': return world.trips % 5;
                default: throw new IllegalArgumentException();
            }
        }
    }

    private World now = new World();
    private String text = "";
    private String rule = "";
    private long[] row = {};
    private final Deque<World> undos = new ArrayDeque<>();
    private final World[] kept = new World[2];
    private final List<int[]> heard = new ArrayList<>();
    private final List<int[]> seen = new ArrayList<>();

    private void tell(long... numbers) {
        row = numbers;
    }

    private String takeText() {
        String was = text;
        text = "";
        return was;
    }

    private int done(World before, int answer) {
        if (answer >= 0) {
            undos.addLast(before);
            if (undos.size() > 12) {
                undos.removeFirst();
            }
        }
        return answer;
    }

    public int sign(int v) {
        if (text.length() > 76) {
            return NONE;
        }
        text += "" + (char) (v >> 24 & 255) + (char) (v >> 16 & 255) + (char) (v >> 8 & 255) + (char) (v & 255);
        return text.length();
    }

    public boolean end(int n) {
        if (n < 0 || n > text.length()) {
            return false;
        }
        text = text.substring(0, n);
        return true;
    }

    public int parties() {
        String t = takeText();
        int a = 5 - now.above.size();
        int b = 5 - now.below.size();
        String well = "[1-9]{0," + a + "}(/[1-9]{0," + b + "})?";
        for (int n = 1; n <= t.length(); n++) {
            if (!t.substring(0, n).matches(well)) {
                return -1 - (n - 1);
            }
        }
        if (t.endsWith("/")) {
            return -1 - t.length();
        }
        int slash = t.indexOf('/');
        for (int p = 0; p < t.length(); p++) {
            if (p != slash) {
                now.side(slash >= 0 && p > slash ? 1 : 0).add(t.charAt(p) - '0');
            }
        }
        if (!t.isEmpty()) {
            undos.clear();
        }
        return t.replace("/", "").length();
    }

    public int rule() {
        String t = takeText();
        int bad = Formula.bad(t);
        if (bad >= 0) {
            return -1 - bad;
        }
        rule = t;
        return 0;
    }

    public int party(int side, int k) {
        if (k < 0 || k >= now.side(side).size()) {
            throw new NoSuchElementException();
        }
        return now.side(side).get(k);
    }

    public int sheet(int kind, int n, int f, int step) {
        if (kind < 0 || kind > 3 || n > 5) {
            return NONE;
        }
        if (kind < 3 && n < 0) {
            return -2;
        }
        int entry = f;
        int sum = 0;
        for (int k = 0; k < now.above.size(); k++) {
            int read = kind == 0 ? (byte) entry : kind == 1 ? (short) entry : entry;
            int weight = kind == 3 || k >= n ? 1 : read < 1 ? 1 : read > 9 ? 9 : read;
            now.above.set(k, weight);
            sum += weight;
            entry += step;
        }
        return kind == 3 ? -3 : sum;
    }

    public int trip() {
        return done(now.copy(), go(now.next(0), now.next(1)));
    }

    private int go(int a, int b) {
        if (a == 0 && b == 0) {
            return -2;
        }
        int water = now.water(a, b);
        if (!now.travel(a, b, rule)) {
            return -3;
        }
        tell(water, now.cistern);
        return Integer.bitCount(a) + Integer.bitCount(b);
    }

    public int sends(int above, int below) {
        if (above < 0 || above >= 1 << now.above.size() || below < 0 || below >= 1 << now.below.size()) {
            return NONE;
        }
        if (Integer.bitCount(above) > now.seats || Integer.bitCount(below) > now.seats) {
            return NONE;
        }
        return done(now.copy(), go(above, below));
    }

    public int runs(int n) {
        return done(now.copy(), run(n));
    }

    private int run(int n) {
        if (n < 0 || n > 60) {
            return NONE;
        }
        int went = 0;
        int stood = 0;
        for (int i = 0; i < n; i++) {
            boolean somebody = !now.empty();
            boolean goes = now.running(rule);
            went += goes ? 1 : 0;
            stood += somebody && !goes ? 1 : 0;
        }
        tell(stood, now.cistern);
        return went;
    }

    public int grips(int v) {
        return done(now.copy(), grip(v));
    }

    private int grip(int v) {
        int was = now.grip;
        if (v < 0 || v > 9 || v == was) {
            return v == was ? -2 : NONE;
        }
        now.grip = v;
        return 10 + was;
    }

    public int seats(int v) {
        return done(now.copy(), seat(v));
    }

    private int seat(int v) {
        int was = now.seats;
        if (v < 1 || v > 3 || v == was) {
            return v == was ? -2 : NONE;
        }
        now.seats = v;
        return 10 + was;
    }

    public int leaves(int side, int k) {
        return done(now.copy(), leave(side, k));
    }

    private int leave(int side, int k) {
        if (k < 0 || k >= now.side(side).size()) {
            return NONE;
        }
        now.side(side).remove(k);
        return now.side(side).size();
    }

    public int swaps(int side, int k) {
        return done(now.copy(), swap(side, k));
    }

    private int swap(int side, int k) {
        List<Integer> waits = now.side(side);
        if (k < 0 || k >= waits.size()) {
            return NONE;
        }
        if (k == waits.size() - 1) {
            return -2;
        }
        waits.add(k, waits.remove(k + 1));
        return waits.get(k);
    }

    public int drains(int n) {
        return done(now.copy(), drain(n));
    }

    private int drain(int n) {
        if (n < 1 || n > 99) {
            return NONE;
        }
        if (now.cistern < n) {
            return -2;
        }
        return now.cistern -= n;
    }

    public int day() {
        String t = takeText();
        String act = "\\*|n[0-9]|g[0-9]|s[1-3]|l[0-9][0-9]|x[0-9][0-9]|o[0-9][0-9]";
        String whole = "(" + act + ")*";
        for (int n = 1; n <= t.length(); n++) {
            String ahead = t.substring(0, n);
            boolean goesOn = ahead.matches(whole) || (ahead + "1").matches(whole) || (ahead + "11").matches(whole);
            if (n > 60 || !goesOn) {
                return -1 - (n - 1);
            }
        }
        if (!t.matches(whole)) {
            return -1 - t.length();
        }
        World before = now.copy();
        int acts = 0;
        int stopped = 0;
        int p = 0;
        while (p < t.length() && stopped == 0) {
            char c = t.charAt(p);
            int x = p + 1 < t.length() ? t.charAt(p + 1) - '0' : 0;
            int y = p + 2 < t.length() ? t.charAt(p + 2) - '0' : 0;
            int answer = c == '*' ? go(now.next(0), now.next(1))
                    : c == 'n' ? run(x)
                    : c == 'g' ? grip(x)
                    : c == 's' ? seat(x)
                    : c == 'l' ? leave(x, y)
                    : c == 'x' ? swap(x, y)
                    : drain(10 * x + y);
            if (answer < 0) {
                stopped = 1;
            } else {
                acts++;
            }
            p += c == '*' ? 1 : "ngs".indexOf(c) >= 0 ? 2 : 3;
        }
        tell(stopped, now.cistern);
        if (acts > 0) {
            done(before, 0);
        }
        return acts;
    }

    public int undo() {
        if (undos.isEmpty()) {
            return NONE;
        }
        now = undos.removeLast();
        return undos.size();
    }

    public int needs() {
        if (now.empty()) {
            return -2;
        }
        tell(now.weight(0, now.next(0)), now.weight(1, now.next(1)));
        return now.water(now.next(0), now.next(1));
    }

    /** Worlds behind 0, 1, .. minutes. */
    private List<World> coming(World from, String by, int minutes) {
        List<World> worlds = new ArrayList<>();
        worlds.add(from.copy());
        for (int i = 1; i <= minutes; i++) {
            World w = worlds.get(i - 1).copy();
            w.running(by);
            worlds.add(w);
        }
        return worlds;
    }

    public int later(int n) {
        if (n < 0 || n > 99) {
            return NONE;
        }
        World w = coming(now, rule, n).get(n);
        tell(w.down, w.up, w.above.size(), w.below.size());
        return w.cistern;
    }

    private int firstEmpty(List<World> worlds) {
        for (int i = 0; i < worlds.size(); i++) {
            if (worlds.get(i).empty()) {
                return i;
            }
        }
        return 100;
    }

    public int done() {
        List<World> worlds = coming(now, rule, 99);
        int i = firstEmpty(worlds);
        if (i == 100) {
            return -2;
        }
        tell(worlds.get(i).cistern, worlds.get(i).trips - now.trips);
        return i;
    }

    public int dry(int v) {
        if (v < 0 || v > 999) {
            return NONE;
        }
        List<World> worlds = coming(now, rule, 99);
        for (int i = 0; i <= 99; i++) {
            if (worlds.get(i).cistern < v) {
                tell(worlds.get(i).cistern);
                return i;
            }
        }
        return -2;
    }

    private int carriedIn(int side, int k, List<World> worlds) {
        for (int i = 1; i <= 99; i++) {
            if (worlds.get(0).side(side).size() - worlds.get(i).side(side).size() > k) {
                return i;
            }
        }
        return 100;
    }

    public int when(int side, int k) {
        if (k < 0 || k >= now.side(side).size()) {
            return NONE;
        }
        List<World> worlds = coming(now, rule, 99);
        int i = carriedIn(side, k, worlds);
        if (i == 100) {
            return -2;
        }
        tell(i - (worlds.get(i).trips - now.trips));
        return i;
    }

    public int enough() {
        if (now.empty()) {
            return -3;
        }
        for (int c = 0; c <= 999; c++) {
            World w = now.copy();
            w.cistern = c;
            boolean goes = true;
            while (goes && !w.empty()) {
                goes = w.running(rule);
            }
            if (goes) {
                tell(w.trips - now.trips);
                return c;
            }
        }
        return -2;
    }

    public int waiting() {
        if (now.empty()) {
            return -3;
        }
        List<World> worlds = coming(now, rule, 99);
        int sum = 0;
        int longest = 0;
        for (int side = 0; side < 2; side++) {
            for (int k = 0; k < now.side(side).size(); k++) {
                int i = carriedIn(side, k, worlds);
                if (i == 100) {
                    return -2;
                }
                sum += i;
                longest = Math.max(longest, i);
            }
        }
        tell(longest);
        return sum;
    }

    public int holds(int n) {
        if (n < 0 || n > 60) {
            return NONE;
        }
        int greatest = -2;
        int such = 0;
        for (int g = 0; g <= 9; g++) {
            World w = now.copy();
            w.grip = g;
            if (coming(w, rule, n).get(n).empty()) {
                greatest = g;
                such++;
            }
        }
        if (such > 0) {
            tell(such);
        }
        return greatest;
    }

    public int soonest() {
        if (now.empty()) {
            return -3;
        }
        long[] minutes = new long[3];
        int best = 0;
        for (int s = 1; s <= 3; s++) {
            World w = now.copy();
            w.seats = s;
            minutes[s - 1] = firstEmpty(coming(w, rule, 99));
            if (minutes[s - 1] < 100 && (best == 0 || minutes[s - 1] < minutes[best - 1])) {
                best = s;
            }
        }
        if (best == 0) {
            return -2;
        }
        tell(minutes);
        return best;
    }

    /** Pairs of groups that may make a TRIP out of those who are left. */
    private List<int[]> pairs(int leftAbove, int leftBelow) {
        List<int[]> pairs = new ArrayList<>();
        for (int a = 0; a < 32; a++) {
            for (int b = 0; b < 32; b++) {
                boolean there = (a & leftAbove) == a && (b & leftBelow) == b && a + b > 0;
                if (there && Integer.bitCount(a) <= now.seats && Integer.bitCount(b) <= now.seats) {
                    pairs.add(new int[] {a, b});
                }
            }
        }
        return pairs;
    }

    private int all(int side) {
        return (1 << now.side(side).size()) - 1;
    }

    public int most(int v) {
        if (v < 0 || v > 99) {
            return NONE;
        }
        long[] best = null;
        for (int[] pair : pairs(all(0), all(1))) {
            int water = now.water(pair[0], pair[1]);
            long[] found = {-Integer.bitCount(pair[0]) - Integer.bitCount(pair[1]), water, pair[0], pair[1]};
            if (water <= v && (best == null || Arrays.compare(found, best) < 0)) {
                best = found;
            }
        }
        if (best == null) {
            return -2;
        }
        tell(best[1], best[2], best[3]);
        return (int) -best[0];
    }

    private int leastWater(int t, int a, int b, Map<Integer, Integer> known) {
        if (t == 0) {
            return a + b == 0 ? 0 : 99999;
        }
        int key = (t * 32 + a) * 32 + b;
        Integer got = known.get(key);
        if (got == null) {
            got = 99999;
            for (int[] pair : pairs(a, b)) {
                int rest = leastWater(t - 1, a - pair[0], b - pair[1], known);
                got = Math.min(got, rest + now.water(pair[0], pair[1]));
            }
            known.put(key, got);
        }
        return got;
    }

    private int leastWithRow(int t) {
        Map<Integer, Integer> known = new HashMap<>();
        int least = leastWater(t, all(0), all(1), known);
        if (least >= 99999) {
            return -2;
        }
        for (int[] pair : pairs(all(0), all(1))) {
            int rest = leastWater(t - 1, all(0) - pair[0], all(1) - pair[1], known);
            if (rest + now.water(pair[0], pair[1]) == least) {
                tell(pair[0], pair[1]);
                return least;
            }
        }
        throw new IllegalStateException();
    }

    public int least(int t) {
        return t < 1 || t > 5 ? NONE : leastWithRow(t);
    }

    private int fewestFree(int a, int b, Map<Integer, Integer> known) {
        if (a + b == 0) {
            return 0;
        }
        Integer got = known.get(a * 32 + b);
        if (got == null) {
            got = 99999;
            for (int[] pair : pairs(a, b)) {
                if (now.water(pair[0], pair[1]) == 0) {
                    got = Math.min(got, 1 + fewestFree(a - pair[0], b - pair[1], known));
                }
            }
            known.put(a * 32 + b, got);
        }
        return got;
    }

    public int freely() {
        Map<Integer, Integer> known = new HashMap<>();
        int fewest = fewestFree(all(0), all(1), known);
        if (fewest >= 99999) {
            return -2;
        }
        tell();
        for (int[] pair : pairs(all(0), all(1))) {
            boolean free = now.water(pair[0], pair[1]) == 0;
            if (free && 1 + fewestFree(all(0) - pair[0], all(1) - pair[1], known) == fewest) {
                tell(pair[0], pair[1]);
                break;
            }
        }
        return fewest;
    }

    private int waterOfAll(World from) {
        World w = from.copy();
        int water = 0;
        while (!w.empty()) {
            int a = w.next(0);
            int b = w.next(1);
            water += w.water(a, b);
            w.gone(0, a);
            w.gone(1, b);
        }
        return water;
    }

    public int best() {
        long[] best = null;
        for (int side = 0; side < 2; side++) {
            for (int j = 0; j < now.side(side).size(); j++) {
                for (int i = 0; i < j; i++) {
                    World w = now.copy();
                    java.util.Collections.swap(w.side(side), i, j);
                    long[] found = {waterOfAll(w), side, i, j};
                    if (best == null || Arrays.compare(found, best) < 0) {
                        best = found;
                    }
                }
            }
        }
        if (best == null) {
            return -2;
        }
        tell(best[1], best[2], best[3], waterOfAll(now));
        return (int) best[0];
    }

    public int alike() {
        int pairs = 0;
        long[] best = null;
        for (int a = all(0); a > 0; a--) {
            for (int b = all(1); b > 0; b--) {
                if (now.weight(0, a) == now.weight(1, b)) {
                    pairs++;
                    long[] found = {-now.weight(0, a), a, b};
                    if (best == null || Arrays.compare(found, best) < 0) {
                        best = found;
                    }
                }
            }
        }
        if (best == null) {
            tell();
        } else {
            tell(-best[0], best[1], best[2]);
        }
        return pairs;
    }

    public int parts(int side) {
        if (side < 0 || side > 1) {
            return NONE;
        }
        long[] best = null;
        for (int set = all(side); set >= 0; set--) {
            int one = now.weight(side, set);
            int other = now.weight(side, all(side) - set);
            long[] found = {Math.abs(one - other), set, one};
            if (best == null || Arrays.compare(found, best) < 0) {
                best = found;
            }
        }
        tell(best[1], best[2]);
        return (int) best[0];
    }

    public int spare() {
        World w = now.copy();
        int sum = 0;
        int such = 0;
        int trips = 0;
        while (!w.empty()) {
            int a = w.next(0);
            int b = w.next(1);
            int more = Math.max(0, w.weight(0, a) - w.weight(1, b) - w.grip);
            sum += more;
            such += more > 0 ? 1 : 0;
            trips++;
            w.gone(0, a);
            w.gone(1, b);
        }
        tell(such, trips);
        return sum;
    }

    public int odds(int p, int v) {
        if (p < 0 || p > 10 || v < 0 || v > 99) {
            return NONE;
        }
        List<int[]> next = new ArrayList<>();
        for (int side = 0; side < 2; side++) {
            for (int k = 0; k < now.seats && k < now.side(side).size(); k++) {
                next.add(new int[] {side, now.side(side).get(k)});
            }
        }
        long[] f = {chance(next, 0, now.grip, p, v), 1};
        for (int i = 0; i < next.size(); i++) {
            f[1] *= 10;
        }
        for (long d = f[1]; d > 1; d--) {
            if (f[0] % d == 0 && f[1] % d == 0) {
                f[0] /= d;
                f[1] /= d;
                break;
            }
        }
        tell(f);
        return 0;
    }

    private long chance(List<int[]> next, int i, int excess, int p, int v) {
        if (i == next.size()) {
            return Math.max(0, excess) <= v ? 1 : 0;
        }
        int weight = next.get(i)[0] == 0 ? -next.get(i)[1] : next.get(i)[1];
        return p * chance(next, i + 1, excess + weight, p, v) + (10 - p) * chance(next, i + 1, excess, p, v);
    }

    private static boolean sayable(int what, int v) {
        return what == 0 && (v == 0 || v == 1) || what == 1 && v >= 1 && v <= 9
                || what == 2 && v >= 0 && v <= 4 || what == 3 && (v == 0 || v == 1);
    }

    public int heard(int what, int v) {
        if (!sayable(what, v) || heard.size() == 12) {
            return NONE;
        }
        heard.add(new int[] {what, v});
        return heard.size();
    }

    public int forget() {
        int had = heard.size();
        heard.clear();
        return had;
    }

    private boolean so(int bit, int what, int v) {
        int side = bit / 5;
        int k = bit % 5;
        return what == 0 ? side == v
                : what == 1 ? now.side(side).get(k) >= v
                : what == 2 ? k == v
                : ((now.next(side) & 1 << k) != 0) == (v == 1);
    }

    private List<Integer> fitting() {
        List<Integer> bits = new ArrayList<>();
        for (int bit = 0; bit < 10; bit++) {
            boolean fits = bit % 5 < now.side(bit / 5).size();
            for (int[] h : heard) {
                fits = fits && so(bit, h[0], h[1]);
            }
            if (fits) {
                bits.add(bit);
            }
        }
        return bits;
    }

    public int fits() {
        int set = 0;
        for (int bit : fitting()) {
            set += 1 << bit;
        }
        tell(fitting().size());
        return set;
    }

    public int asks() {
        List<Integer> bits = fitting();
        if (bits.isEmpty()) {
            return -2;
        }
        long[] best = null;
        for (int what = 0; what < 4; what++) {
            for (int v = 0; v < 10; v++) {
                if (sayable(what, v)) {
                    int w = what;
                    int u = v;
                    long[] found = {left(bits, bit -> so(bit, w, u)), 10 * what + v};
                    if (best == null || Arrays.compare(found, best) < 0) {
                        best = found;
                    }
                }
            }
        }
        tell(best[0]);
        return (int) best[1];
    }

    private static long left(List<Integer> of, IntPredicate so) {
        long yes = of.stream().filter(x -> so.test(x)).count();
        return Math.max(yes, of.size() - yes);
    }

    public int saw(int x, int y, int is) {
        if (x < 0 || x > 30 || y < 0 || y > 30 || is < 0 || is > 1 || seen.size() == 10) {
            return NONE;
        }
        seen.add(new int[] {x, y, is});
        return seen.size();
    }

    public int denies() {
        int had = seen.size();
        seen.clear();
        return had;
    }

    private static boolean runsBy(int law, int more) {
        return more >= law / 100 && more <= law % 100;
    }

    private List<Integer> fittingLaws() {
        List<Integer> laws = new ArrayList<>();
        for (int a = 0; a <= 4; a++) {
            for (int b = 5; b <= 12; b++) {
                boolean fits = true;
                for (int[] s : seen) {
                    fits = fits && runsBy(100 * a + b, s[0] - s[1]) == (s[2] == 1);
                }
                if (fits) {
                    laws.add(100 * a + b);
                }
            }
        }
        return laws;
    }

    public int laws() {
        List<Integer> laws = fittingLaws();
        if (laws.isEmpty()) {
            tell();
        } else {
            tell(laws.get(0) / 100, laws.get(0) % 100);
        }
        return laws.size();
    }

    public int looks() {
        List<Integer> laws = fittingLaws();
        if (laws.isEmpty()) {
            return -2;
        }
        long[] best = null;
        for (int more = 0; more <= 30; more++) {
            int m = more;
            long[] found = {left(laws, law -> runsBy(law, m)), more};
            if (best == null || Arrays.compare(found, best) < 0) {
                best = found;
            }
        }
        tell(best[0]);
        return (int) best[1];
    }

    private static boolean wins(int n, Map<Integer, Boolean> known) {
        if (n == 0) {
            return false;
        }
        Boolean got = known.get(n);
        if (got == null) {
            got = !wins(n - 1, known) || n % 2 == 0 && !wins(n / 2, known);
            known.put(n, got);
        }
        return got;
    }

    public int pails(int n) {
        if (n < 0 || n > 200) {
            return NONE;
        }
        Map<Integer, Boolean> known = new HashMap<>();
        if (!wins(n, known)) {
            tell();
            return 0;
        }
        tell(!wins(n - 1, known) ? 1 : n / 2);
        return 1;
    }

    private static int has(int x, int y, int v) {
        return x + y <= v ? x + (v - x - y) / 4 : x / 2 - 1;
    }

    public int rests(int v) {
        if (v < 0 || v > 20) {
            return NONE;
        }
        List<long[]> pairs = new ArrayList<>();
        for (int x = 0; x <= 9; x++) {
            for (int y = 0; y <= 9; y++) {
                boolean rest = true;
                for (int z = 0; z <= 9; z++) {
                    rest = rest && has(z, y, v) <= has(x, y, v) && has(z, x, v) <= has(y, x, v);
                }
                if (rest) {
                    pairs.add(new long[] {x, y});
                }
            }
        }
        tell(pairs.isEmpty() ? new long[0] : pairs.get(0));
        return pairs.size();
    }

    public int law() {
        String t = takeText();
        int bad = Formula.bad(t);
        if (bad >= 0) {
            return -10000 - bad;
        }
        World by = coming(now, t, 20).get(20);
        World as = coming(now, rule, 20).get(20);
        tell(by.cistern, as.cistern, by.trips - now.trips, as.trips - now.trips);
        return by.cistern - as.cistern;
    }

    private int drawn;

    private int draw(int n) {
        drawn = drawn * 1103515245 + 12345;
        return (int) ((drawn & 0xFFFFFFFFL) / 65536 % n);
    }

    public int years(int seed, int n) {
        if (n < 1 || n > 60) {
            return NONE;
        }
        drawn = seed;
        World w = now.copy();
        for (int i = 0; i < n; i++) {
            int what = draw(4);
            if (what == 0) {
                w.running(rule);
            } else if (what == 3) {
                w.grip = draw(10);
            } else {
                int weight = draw(9) + 1;
                if (w.side(what - 1).size() < 5) {
                    w.side(what - 1).add(weight);
                }
            }
        }
        tell(w.down + w.up, w.cistern);
        return w.above.size() + w.below.size();
    }

    public boolean keep(int i) {
        if (i < 0 || i > 1) {
            return false;
        }
        kept[i] = now.copy();
        return true;
    }

    public boolean again(int i) {
        if (i < 0 || i > 1 || kept[i] == null) {
            return false;
        }
        now = kept[i].copy();
        undos.clear();
        return true;
    }

    public int count(int what) {
        int[] counts = {now.above.size(), now.below.size(), now.seats, now.grip, now.cistern, now.down, now.up,
            now.trips, now.minutes, now.spring(rule), heard.size(), seen.size(), undos.size(), row.length,
            text.length()};
        return what >= 0 && what < counts.length ? counts[what] : NONE;
    }

    public long row(int i) {
        if (i < 0 || i >= row.length) {
            throw new NoSuchElementException();
        }
        return row[i];
    }
}
