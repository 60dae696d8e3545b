/** An object and the plain model: each call is done on both, and must be answered alike; 512 calls and no more. */
final class Pair {
    static final int CALLS = 512;

    private final DayBelt x = new DayBelt();
    private final Model m = new Model();
    private final StringBuilder story = new StringBuilder();
    private int calls = 0;
    private boolean alike = true;

    /** How many calls more the document allows. */
    int left() {
        return CALLS - calls;
    }

    boolean isAlike() {
        return alike;
    }

    String story() {
        return story.toString();
    }

    /** What the model knows; to look at it is no call. */
    int people() {
        return m.count(0);
    }

    int stepsDone() {
        return m.count(1);
    }

    int high() {
        return m.count(2);
    }

    /** Types the text and takes it as a block: one call a letter, and one more. */
    int take(String text) {
        for (int k = 0; k < text.length(); k++) {
            type(text.charAt(k));
        }
        return block();
    }

    private int same(int got, int want, String name, long... args) {
        calls++;
        StringBuilder call = new StringBuilder(name).append('(');
        for (int k = 0; k < args.length; k++) {
            call.append(k == 0 ? "" : ", ").append(args[k]);
        }
        call.append(')');
        story.append(call).append(" = ").append(got).append('\n');
        Check.due("call " + calls + ", " + call, got, want);
        if (calls > CALLS) {
            Check.that("a run has no more than " + CALLS + " calls", false);
        }
        alike &= got == want;
        return got;
    }

    int person(int kind, int weight, int floor, int day) {
        return same(x.person(kind, weight, floor, day), m.person(kind, weight, floor, day), "person", kind, weight, floor, day);
    }

    int of(int person, int what) {
        return same(x.of(person, what), m.of(person, what), "of", person, what);
    }

    int car(int car, int what) {
        return same(x.car(car, what), m.car(car, what), "car", car, what);
    }

    int day(int car, int v) {
        return same(x.day(car, v), m.day(car, v), "day", car, v);
    }

    int rule(int what, int v) {
        return same(x.rule(what, v), m.rule(what, v), "rule", what, v);
    }

    int type(int letter) {
        return same(x.type(letter), m.type(letter), "type", letter);
    }

    int block() {
        return same(x.block(), m.block(), "block");
    }

    int count(int what) {
        return same(x.count(what), m.count(what), "count", what);
    }

    int in(int person, int side) {
        return same(x.in(person, side), m.in(person, side), "in", person, side);
    }

    int out(int person) {
        return same(x.out(person), m.out(person), "out", person);
    }

    int steps(int n) {
        return same(x.steps(n), m.steps(n), "steps", n);
    }

    int drift(int n) {
        return same(x.drift(n), m.drift(n), "drift", n);
    }

    int undo() {
        return same(x.undo(), m.undo(), "undo");
    }

    int seed(int v) {
        return same(x.seed(v), m.seed(v), "seed", v);
    }

    int at(int floor, int side, int n) {
        return same(x.at(floor, side, n), m.at(floor, side, n), "at", floor, side, n);
    }

    int place(int car, int n) {
        return same(x.place(car, n), m.place(car, n), "place", car, n);
    }

    int comes(int day, int floor, int side) {
        return same(x.comes(day, floor, side), m.comes(day, floor, side), "comes", day, floor, side);
    }

    int soonest(int person, int floor, int day, int what) {
        return same(x.soonest(person, floor, day, what), m.soonest(person, floor, day, what), "soonest", person, floor, day, what);
    }

    int never(int person, int day) {
        return same(x.never(person, day), m.never(person, day), "never", person, day);
    }

    int meet(int person, int other, int what) {
        return same(x.meet(person, other, what), m.meet(person, other, what), "meet", person, other, what);
    }

    int heaviest(int what) {
        return same(x.heaviest(what), m.heaviest(what), "heaviest", what);
    }

    int changed(int person, int floor, int day, int what) {
        return same(x.changed(person, floor, day, what), m.changed(person, floor, day, what), "changed", person, floor, day, what);
    }

    int goes(int n, int s) {
        return same(x.goes(n, s), m.goes(n, s), "goes", n, s);
    }

    int image() {
        return same(x.image(), m.image(), "image");
    }

    int restore() {
        return same(x.restore(), m.restore(), "restore");
    }

    int weighed(int sheet, int lane, int i, int n, int what) {
        return same(x.weighed(sheet, lane, i, n, what), m.weighed(sheet, lane, i, n, what), "weighed", sheet, lane, i, n, what);
    }

    int film(int floor, int side, int n, int sheet, int lane, int i) {
        return same(x.film(floor, side, n, sheet, lane, i), m.film(floor, side, n, sheet, lane, i), "film",
            floor, side, n, sheet, lane, i);
    }

    int sheet(int sheet, int lane, int n) {
        return same(x.sheet(sheet, lane, n), m.sheet(sheet, lane, n), "sheet", sheet, lane, n);
    }

    int drop(int sheet) {
        return same(x.drop(sheet), m.drop(sheet), "drop", sheet);
    }

    int item(int sheet, int lane, int i, long v) {
        return same(x.item(sheet, lane, i, v), m.item(sheet, lane, i, v), "item", sheet, lane, i, v);
    }

    int copy(int from, int i, int to, int j, int n) {
        return same(x.copy(from, i, to, j, n), m.copy(from, i, to, j, n), "copy", from, i, to, j, n);
    }
}
