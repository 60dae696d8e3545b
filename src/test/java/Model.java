import java.util.ArrayList;
import java.util.Arrays;
import java.util.HashSet;
import java.util.LinkedHashSet;
import java.util.List;
import java.util.Set;
import java.util.regex.Matcher;
import java.util.regex.Pattern;

/**
 * The document once more, as slowly and as literally as can be: cars are moved one by one along a list,
 * what is undone is a whole copy, ways are looked for one state after another, weighings are all tried.
 */
final class Model {
    private static final int BAD = -1, NOT = -2, FULL = -3, NONE = -4, NULL = -11, CAST = -12, INDEX = -13, SIZE = -14;

    private static final class Rider {
        int kind, weight, floor, day, lunches;
        Integer car;

        Rider copy() {
            Rider r = new Rider();
            r.kind = kind;
            r.weight = weight;
            r.floor = floor;
            r.day = day;
            r.lunches = lunches;
            r.car = car;
            return r;
        }

        int weighs() {
            return kind == 2 || kind == 3 ? weight * 2 : weight;
        }
    }

    /** What an undo brings back. */
    private static final class State {
        List<Rider> riders = new ArrayList<>();
        List<Integer> belt = new ArrayList<>();
        int steps = 0;
        long draw = 1;

        State copy() {
            State s = new State();
            for (Rider r : riders) {
                s.riders.add(r.copy());
            }
            s.belt.addAll(belt);
            s.steps = steps;
            s.draw = draw;
            return s;
        }
    }

    /** All that an image keeps. */
    private static final class Whole {
        int high = 3, limit = 20, noon = 12;
        int[] days = {0, 1, 2, 3, 4, 5};
        State now = new State();
        List<State> undo = new ArrayList<>();

        Whole copy() {
            Whole w = new Whole();
            w.high = high;
            w.limit = limit;
            w.noon = noon;
            w.days = days.clone();
            w.now = now.copy();
            for (State s : undo) {
                w.undo.add(s.copy());
            }
            return w;
        }
    }

    private Whole all = new Whole();
    private Whole kept = null;
    private final StringBuilder tape = new StringBuilder();
    private final Object[] sheets = new Object[4];

    Model() {
        for (int k = 0; k < 6; k++) {
            all.now.belt.add(k);
        }
    }

    private static boolean in(int v, int low, int high) {
        return low <= v && v <= high;
    }

    private boolean noPerson(int p) {
        return !in(p, 0, all.now.riders.size() - 1);
    }

    private boolean noFloor(int f) {
        return !in(f, 0, all.high - 1);
    }

    private boolean noCar(int c) {
        return !in(c, 0, 2 * all.high - 1);
    }

    private static int floorOfPlace(int place, int high) {
        return place < high ? place : 2 * high - 1 - place;
    }

    private static int placeOf(int floor, int side, int high) {
        for (int place = 0; place < 2 * high; place++) {
            if (floorOfPlace(place, high) == floor && (place < high) == (side == 0)) {
                return place;
            }
        }
        throw new IllegalStateException();
    }

    private static void rotate(List<Integer> belt) {
        belt.add(0, belt.remove(belt.size() - 1));
    }

    private int load(State s, int car) {
        int sum = 0;
        for (Rider r : s.riders) {
            if (r.car != null && r.car == car) {
                sum += r.weighs();
            }
        }
        return sum;
    }

    private void remember() {
        all.undo.add(all.now.copy());
        if (all.undo.size() > 8) {
            all.undo.remove(0);
        }
    }

    private void getOut(State s, Rider r) {
        r.floor = floorOfPlace(s.belt.indexOf(r.car), all.high);
        r.day = all.days[r.car];
        r.car = null;
    }

    private void step(State s) {
        List<Integer> before = new ArrayList<>(s.belt);
        rotate(s.belt);
        s.steps++;
        for (Rider r : s.riders) {
            if (r.car == null) {
                continue;
            }
            int from = before.indexOf(r.car);
            int to = s.belt.indexOf(r.car);
            boolean sideChanged = from < all.high != to < all.high;
            boolean turned = sideChanged && floorOfPlace(from, all.high) == floorOfPlace(to, all.high);
            boolean shy = r.kind == 1 || r.kind == 4 && floorOfPlace(to, all.high) == 0;
            if (turned && shy) {
                getOut(s, r);
            }
        }
        if (s.steps % all.noon == 0) {
            for (Rider r : s.riders) {
                if (r.car == null && r.floor == 0) {
                    r.lunches++;
                }
            }
        }
    }

    private int riding(State s) {
        int set = 0;
        for (int p = 0; p < s.riders.size(); p++) {
            set += s.riders.get(p).car != null ? 1 << p : 0;
        }
        return set;
    }

    int person(int kind, int weight, int floor, int day) {
        if (!in(kind, 0, 4) || !in(weight, 1, 9) || noFloor(floor) || !in(day, 0, 6)) {
            return BAD;
        }
        if (all.now.riders.size() == 6) {
            return FULL;
        }
        all.undo.clear();
        all.now.riders.add(rider(kind, weight, floor, day));
        return all.now.riders.size() - 1;
    }

    private static Rider rider(int kind, int weight, int floor, int day) {
        Rider r = new Rider();
        r.kind = kind;
        r.weight = weight;
        r.floor = floor;
        r.day = day;
        return r;
    }

    int of(int person, int what) {
        if (noPerson(person) || !in(what, 0, 5)) {
            return BAD;
        }
        Rider r = all.now.riders.get(person);
        int floor = r.car == null ? r.floor : floorOfPlace(all.now.belt.indexOf(r.car), all.high);
        int day = r.car == null ? r.day : all.days[r.car];
        return new int[] {r.kind, r.weighs(), floor, r.car == null ? NONE : r.car, day, r.lunches}[what];
    }

    int car(int car, int what) {
        if (noCar(car) || !in(what, 0, 5)) {
            return BAD;
        }
        int place = all.now.belt.indexOf(car);
        int set = 0;
        for (int p = 0; p < all.now.riders.size(); p++) {
            Integer c = all.now.riders.get(p).car;
            set += c != null && c == car ? 1 << p : 0;
        }
        return new int[] {all.days[car], place, floorOfPlace(place, all.high), place < all.high ? 0 : 1,
            load(all.now, car), set}[what];
    }

    int day(int car, int v) {
        if (noCar(car) || !in(v, 0, 6)) {
            return BAD;
        }
        int old = all.days[car];
        all.days[car] = v;
        return old;
    }

    int rule(int what, int v) {
        if (!in(what, 0, 1) || what == 0 && !in(v, 1, 60) || what == 1 && !in(v, 2, 24)) {
            return BAD;
        }
        int old = what == 0 ? all.limit : all.noon;
        if (what == 0) {
            all.limit = v;
        } else {
            all.noon = v;
        }
        return old;
    }

    int type(int letter) {
        if (!in(letter, 32, 126)) {
            return BAD;
        }
        if (tape.length() == 60) {
            return FULL;
        }
        tape.append((char) letter);
        return tape.length();
    }

    private static final Pattern BLOCK = pattern();

    private static Pattern pattern() {
        List<String> kinds = new ArrayList<>();
        for (int high = 2; high <= 6; high++) {
            String one = "[pshka][1-9][0-" + (high - 1) + "][0-6]";
            kinds.add(high + ";[0-6]{" + 2 * high + "};" + one + "(?:," + one + "){0,5}");
        }
        return Pattern.compile(String.join("|", kinds));
    }

    int block() {
        String raw = tape.toString();
        tape.setLength(0);
        StringBuilder dense = new StringBuilder();
        List<Integer> places = new ArrayList<>();
        for (int k = 0; k < raw.length(); k++) {
            if (raw.charAt(k) != ' ') {
                dense.append(raw.charAt(k));
                places.add(k);
            }
        }
        for (int length = 1; length <= dense.length(); length++) {
            Matcher m = BLOCK.matcher(dense.substring(0, length));
            if (!m.matches() && !m.hitEnd()) {
                return -20 - places.get(length - 1);
            }
        }
        if (!BLOCK.matcher(dense).matches()) {
            return -20 - raw.length();
        }
        take(dense.toString().split(";"));
        return all.now.riders.size();
    }

    private void take(String[] parts) {
        all.high = parts[0].charAt(0) - '0';
        all.days = new int[2 * all.high];
        State s = new State();
        s.draw = all.now.draw;
        for (int k = 0; k < all.days.length; k++) {
            all.days[k] = parts[1].charAt(k) - '0';
            s.belt.add(k);
        }
        for (String one : parts[2].split(",")) {
            s.riders.add(rider("pshka".indexOf(one.charAt(0)), one.charAt(1) - '0', one.charAt(2) - '0', one.charAt(3) - '0'));
        }
        all.now = s;
        all.undo.clear();
    }

    int count(int what) {
        if (!in(what, 0, 8)) {
            return BAD;
        }
        int sum = 0;
        int least = Integer.MAX_VALUE;
        for (Rider r : all.now.riders) {
            sum += r.lunches;
            least = Math.min(least, r.lunches);
        }
        return new int[] {all.now.riders.size(), all.now.steps, all.high, all.limit, all.noon, all.undo.size(),
            riding(all.now), sum, all.now.riders.isEmpty() ? NONE : least}[what];
    }

    int in(int person, int side) {
        if (noPerson(person) || !in(side, 0, 1)) {
            return BAD;
        }
        Rider r = all.now.riders.get(person);
        if (r.car != null) {
            return NOT;
        }
        int car = all.now.belt.get(placeOf(r.floor, side, all.high));
        if (r.kind != 3 && load(all.now, car) + r.weighs() > all.limit) {
            return FULL;
        }
        remember();
        r.car = car;
        return car;
    }

    int out(int person) {
        if (noPerson(person)) {
            return BAD;
        }
        Rider r = all.now.riders.get(person);
        if (r.car == null) {
            return NOT;
        }
        remember();
        getOut(all.now, r);
        return r.floor;
    }

    int steps(int n) {
        if (!in(n, 1, 60)) {
            return BAD;
        }
        if (all.now.steps + n > 9999) {
            return FULL;
        }
        for (int k = 0; k < n; k++) {
            remember();
            step(all.now);
        }
        return riding(all.now);
    }

    int drift(int n) {
        if (!in(n, 1, 60)) {
            return BAD;
        }
        if (all.now.steps + n > 9999) {
            return FULL;
        }
        int stood = 0;
        for (int k = 0; k < n; k++) {
            remember();
            all.now.draw = (all.now.draw * 1103515245L + 12345L) % (1L << 31);
            if (all.now.draw / 65536 % 12 < Integer.bitCount(riding(all.now))) {
                stood++;
            } else {
                step(all.now);
            }
        }
        return stood;
    }

    int undo() {
        if (all.undo.isEmpty()) {
            return NONE;
        }
        all.now = all.undo.remove(all.undo.size() - 1);
        return all.undo.size();
    }

    int seed(int v) {
        if (v < 0) {
            return BAD;
        }
        int old = (int) all.now.draw;
        all.now.draw = v;
        return old;
    }

    private List<Integer> beltAfter(int n) {
        List<Integer> belt = new ArrayList<>(all.now.belt);
        for (int k = 0; k < n; k++) {
            rotate(belt);
        }
        return belt;
    }

    int at(int floor, int side, int n) {
        if (noFloor(floor) || !in(side, 0, 1) || !in(n, 0, 999)) {
            return BAD;
        }
        return beltAfter(n).get(placeOf(floor, side, all.high));
    }

    int place(int car, int n) {
        return noCar(car) || !in(n, 0, 999) ? BAD : beltAfter(n).indexOf(car);
    }

    int comes(int day, int floor, int side) {
        if (!in(day, 0, 6) || noFloor(floor) || !in(side, 0, 1)) {
            return BAD;
        }
        for (int n = 0; n <= 11; n++) {
            if (all.days[at(floor, side, n)] == day) {
                return n;
            }
        }
        return NONE;
    }

    /** Where one is: on a floor on a day (floor, day, -1), or in a car (-1, -1, car). */
    private List<Integer> start(int person) {
        Rider r = all.now.riders.get(person);
        return r.car == null ? Arrays.asList(r.floor, r.day, -1) : Arrays.asList(-1, -1, r.car);
    }

    /** Where one is behind a move, or null if it can't be done. */
    private List<Integer> moved(List<Integer> w, int move, List<Integer> belt, int[] days) {
        if (move == 0) {
            return w;
        }
        boolean rides = w.get(2) != -1;
        if (rides != (move == 3)) {
            return null;
        }
        if (rides) {
            return Arrays.asList(floorOfPlace(belt.indexOf(w.get(2)), all.high), days[w.get(2)], -1);
        }
        return Arrays.asList(-1, -1, belt.get(placeOf(w.get(0), move - 1, all.high)));
    }

    private List<Integer> stepped(List<Integer> w, List<Integer> beltThen, int[] days, int kind) {
        if (w.get(2) == -1) {
            return w;
        }
        int place = beltThen.indexOf(w.get(2));
        if (place == 0 && (kind == 1 || kind == 4)) {
            return Arrays.asList(0, days[w.get(2)], -1);
        }
        if (place == all.high && kind == 1) {
            return Arrays.asList(all.high - 1, days[w.get(2)], -1);
        }
        return w;
    }

    /** For 0 .. 60 steps: all that one can be in behind them and one more move; only by ways of that first move, if it is not -1. */
    private List<Set<List<Integer>>> reach(int person, int[] days, int firstMove) {
        int kind = all.now.riders.get(person).kind;
        List<Set<List<Integer>>> answer = new ArrayList<>();
        Set<List<Integer>> now = new LinkedHashSet<>();
        now.add(start(person));
        List<Integer> belt = new ArrayList<>(all.now.belt);
        for (int n = 0; n <= 60; n++) {
            Set<List<Integer>> then = new HashSet<>();
            for (List<Integer> w : now) {
                for (int move = 0; move < 4; move++) {
                    List<Integer> m = n > 0 || firstMove == -1 || firstMove == move ? moved(w, move, belt, days) : null;
                    if (m != null) {
                        then.add(m);
                    }
                }
            }
            answer.add(then);
            rotate(belt);
            now = new HashSet<>();
            for (List<Integer> w : then) {
                now.add(stepped(w, belt, days, kind));
            }
        }
        return answer;
    }

    private int first(List<Set<List<Integer>>> reach, int floor, int day) {
        for (int n = 0; n <= 60; n++) {
            if (reach.get(n).contains(Arrays.asList(floor, day, -1))) {
                return n;
            }
        }
        return NONE;
    }

    int soonest(int person, int floor, int day, int what) {
        if (noPerson(person) || noFloor(floor) || !in(day, 0, 6) || !in(what, 0, 1)) {
            return BAD;
        }
        int n = first(reach(person, all.days, -1), floor, day);
        if (n == NONE || what == 0) {
            return n;
        }
        for (int move = 0; move < 4; move++) {
            if (first(reach(person, all.days, move), floor, day) == n) {
                return move;
            }
        }
        throw new IllegalStateException();
    }

    int never(int person, int day) {
        if (noPerson(person) || !in(day, 0, 6)) {
            return BAD;
        }
        int set = 0;
        List<Set<List<Integer>>> reach = reach(person, all.days, -1);
        for (int floor = 0; floor < all.high; floor++) {
            set += first(reach, floor, day) == NONE ? 1 << floor : 0;
        }
        return set;
    }

    int meet(int person, int other, int what) {
        if (noPerson(person) || noPerson(other) || person == other || !in(what, 0, 2)) {
            return BAD;
        }
        List<Set<List<Integer>>> one = reach(person, all.days, -1);
        List<Set<List<Integer>>> two = reach(other, all.days, -1);
        for (int n = 0; n <= 60; n++) {
            for (int floor = 0; floor < all.high; floor++) {
                for (int day = 0; day < 7; day++) {
                    List<Integer> w = Arrays.asList(floor, day, -1);
                    if (one.get(n).contains(w) && two.get(n).contains(w)) {
                        return new int[] {n, floor, day}[what];
                    }
                }
            }
        }
        return NONE;
    }

    int heaviest(int what) {
        if (!in(what, 0, 1)) {
            return BAD;
        }
        int best = 0;
        for (int car = 0; car < 2 * all.high; car++) {
            best = load(all.now, car) > load(all.now, best) ? car : best;
        }
        return what == 0 ? best : load(all.now, best);
    }

    int changed(int person, int floor, int day, int what) {
        if (noPerson(person) || noFloor(floor) || !in(day, 0, 6) || !in(what, 0, 1)) {
            return BAD;
        }
        int best = soonest(person, floor, day, 0);
        best = best == NONE ? 1000 : best;
        int pair = NONE;
        for (int k = 0; k < 2 * all.high; k++) {
            for (int l = k + 1; l < 2 * all.high; l++) {
                int[] days = all.days.clone();
                days[k] = all.days[l];
                days[l] = all.days[k];
                int n = first(reach(person, days, -1), floor, day);
                if (n != NONE && n < best) {
                    best = n;
                    pair = 100 * k + l;
                }
            }
        }
        return pair == NONE ? NONE : what == 0 ? pair : best;
    }

    int goes(int n, int s) {
        if (!in(n, 0, 30) || !in(s, 0, 100)) {
            return BAD;
        }
        long v = 1000000;
        for (int k = 0; k < n; k++) {
            v = v * (100 - s) / 100;
        }
        return (int) v;
    }

    int image() {
        kept = all.copy();
        return 1;
    }

    int restore() {
        if (kept == null) {
            return NONE;
        }
        all = kept.copy();
        return 1;
    }

    private static int laneOf(Object row) {
        return row instanceof byte[] ? 0 : row instanceof short[] ? 1 : row instanceof int[] ? 2 : 3;
    }

    private static int length(Object row) {
        return java.lang.reflect.Array.getLength(row);
    }

    private static boolean noRange(Object row, int i, int n) {
        return i < 0 || n < 0 || (long) i + n > length(row);
    }

    private int refused(int sheet, int lane, int i, int n) {
        Object row = sheets[sheet];
        return row == null ? NULL : laneOf(row) != lane ? CAST : noRange(row, i, n) ? INDEX : 0;
    }

    private void put(Object row, int i, long v) {
        if (row instanceof byte[]) {
            ((byte[]) row)[i] = (byte) v;
        } else if (row instanceof short[]) {
            ((short[]) row)[i] = (short) v;
        } else if (row instanceof int[]) {
            ((int[]) row)[i] = (int) v;
        } else {
            ((long[]) row)[i] = v;
        }
    }

    int weighed(int sheet, int lane, int i, int n, int what) {
        if (!in(sheet, 0, 3) || !in(lane, 0, 3) || !in(n, 1, 4) || !in(what, 0, 1)) {
            return BAD;
        }
        int refused = refused(sheet, lane, i, n);
        if (refused != 0) {
            return refused;
        }
        long[] loads = new long[n];
        for (int k = 0; k < n; k++) {
            loads[k] = java.lang.reflect.Array.getLong(sheets[sheet], i + k);
            if (loads[k] < 0 || loads[k] > 999) {
                return NOT;
            }
        }
        int people = all.now.riders.size();
        int ways = 0;
        int least = Integer.MAX_VALUE;
        for (int way = 0; way < Math.pow(n + 1, people); way++) {
            long[] sums = new long[n];
            int set = 0;
            int rest = way;
            for (int p = 0; p < people; p++) {
                int car = rest % (n + 1);
                rest /= n + 1;
                if (car < n) {
                    sums[car] += all.now.riders.get(p).weighs();
                    set |= 1 << p;
                }
            }
            if (Arrays.equals(sums, loads)) {
                ways++;
                least = Math.min(least, set);
            }
        }
        return what == 0 ? ways : ways == 0 ? NONE : least;
    }

    int film(int floor, int side, int n, int sheet, int lane, int i) {
        if (noFloor(floor) || !in(side, 0, 1) || !in(n, 1, 24) || !in(sheet, 0, 3) || !in(lane, 0, 3)) {
            return BAD;
        }
        int refused = refused(sheet, lane, i, n);
        if (refused != 0) {
            return refused;
        }
        State s = all.now.copy();
        for (int k = 0; k < n; k++) {
            step(s);
            put(sheets[sheet], i + k, load(s, s.belt.get(placeOf(floor, side, all.high))));
        }
        return n;
    }

    int sheet(int sheet, int lane, int n) {
        if (!in(sheet, 0, 3) || !in(lane, 0, 3) || n > 24) {
            return BAD;
        }
        if (n < 0) {
            return SIZE;
        }
        sheets[sheet] = lane == 0 ? new byte[n] : lane == 1 ? new short[n] : lane == 2 ? new int[n] : new long[n];
        return n;
    }

    int drop(int sheet) {
        if (!in(sheet, 0, 3)) {
            return BAD;
        }
        if (sheets[sheet] == null) {
            return NULL;
        }
        int had = length(sheets[sheet]);
        sheets[sheet] = null;
        return had;
    }

    int item(int sheet, int lane, int i, long v) {
        if (!in(sheet, 0, 3) || !in(lane, 0, 3)) {
            return BAD;
        }
        int refused = refused(sheet, lane, i, 1);
        if (refused != 0) {
            return refused;
        }
        put(sheets[sheet], i, v);
        return 1;
    }

    int copy(int from, int i, int to, int j, int n) {
        if (!in(from, 0, 3) || !in(to, 0, 3)) {
            return BAD;
        }
        if (sheets[from] == null || sheets[to] == null) {
            return NULL;
        }
        if (laneOf(sheets[from]) != laneOf(sheets[to])) {
            return CAST;
        }
        if (noRange(sheets[from], i, n) || noRange(sheets[to], j, n)) {
            return INDEX;
        }
        System.arraycopy(sheets[from], i, sheets[to], j, n);
        return n;
    }
}
