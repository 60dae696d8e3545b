import java.util.Random;

/** Runs of 512 calls by fixed seeds, each answered by the class and by the plain model, alike. */
public final class ModelTest {
    private static final int RUNS = 600, CALLS = 512, FORETELLING_RUNS = 60;
    private static final int[] EDGES = {Integer.MIN_VALUE, -2, -1, 0, 1, 2, 3, 4, 5, 6, 7, 8, 9, 10, 11, 12, 23, 24, 25,
        30, 31, 59, 60, 61, 99, 100, 101, 999, 1000, 9999, Integer.MAX_VALUE};

    private final Random random;
    private final DayBelt x = new DayBelt();
    private final Model m = new Model();
    private final StringBuilder story = new StringBuilder();
    private String text = "";

    private ModelTest(long seed) {
        random = new Random(seed);
    }

    public static void main(String[] args) {
        for (int run = 0; run < RUNS && !Check.anyWrong(); run++) {
            new ModelTest(run).calls(run < FORETELLING_RUNS ? 40 : 6);
        }
        Check.end();
    }

    /** The model's foretelling is slow: only the first runs have much of it. */
    private void calls(int slow) {
        for (int k = 0; k < CALLS && !Check.anyWrong(); k++) {
            int one = random.nextInt(160 + slow);
            if (!text.isEmpty()) {
                typeOn();
            } else if (one < 80) {
                doing(random.nextInt(28));
            } else if (one < 160) {
                looking(random.nextInt(24));
            } else {
                foretelling(random.nextInt(7));
            }
        }
        if (Check.anyWrong()) {
            System.out.println(story);
        }
    }

    private void same(String call, long got, long want) {
        story.append(call).append(" = ").append(got).append('\n');
        Check.due(call, got, want);
    }

    /** Mostly within these bounds, at times just beyond them, at times an edge of something else. */
    private int some(int low, int high) {
        int luck = random.nextInt(60);
        if (luck == 0) {
            return EDGES[random.nextInt(EDGES.length)];
        }
        if (luck == 1) {
            return random.nextBoolean() ? low - 1 : high + 1;
        }
        return low + random.nextInt(high - low + 1);
    }

    private int aPerson() {
        return some(0, Math.max(0, m.count(0) - 1));
    }

    private int aFloor() {
        return some(0, m.count(2) - 1);
    }

    private int aCar() {
        return some(0, 2 * m.count(2) - 1);
    }

    private String anyText() {
        StringBuilder s = new StringBuilder();
        int high = 2 + random.nextInt(5);
        s.append(high).append(';');
        for (int k = 0; k < 2 * high; k++) {
            s.append(random.nextInt(7));
        }
        s.append(';');
        int people = 1 + random.nextInt(random.nextInt(8) == 0 ? 7 : 6);
        for (int p = 0; p < people; p++) {
            s.append(p == 0 ? "" : ",").append("pshka".charAt(random.nextInt(5))).append(1 + random.nextInt(9));
            s.append(random.nextInt(high)).append(random.nextInt(7));
        }
        for (int k = random.nextInt(3); k > 0; k--) {
            s.insert(random.nextInt(s.length() + 1), ' ');
        }
        switch (random.nextInt(4)) {
            case 0: s.setCharAt(random.nextInt(s.length()), (char) (32 + random.nextInt(95))); break;
            case 1: s.setLength(random.nextInt(s.length() + 1)); break;
            default: break;
        }
        return s.toString();
    }

    private void typeOn() {
        int letter = text.charAt(0);
        text = text.substring(1);
        same("type(" + letter + ")", x.type(letter), m.type(letter));
        if (text.isEmpty()) {
            same("block()", x.block(), m.block());
        }
    }

    private void doing(int which) {
        int a;
        int b;
        switch (which) {
            case 0: case 1: {
                a = some(0, 4); b = some(1, 9); int f = aFloor(); int d = some(0, 6);
                same("person(" + a + "," + b + "," + f + "," + d + ")", x.person(a, b, f, d), m.person(a, b, f, d));
                break;
            }
            case 2: a = aCar(); b = some(0, 6); same("day(" + a + "," + b + ")", x.day(a, b), m.day(a, b)); break;
            case 3: a = some(0, 1); b = some(1, 30); same("rule(" + a + "," + b + ")", x.rule(a, b), m.rule(a, b)); break;
            case 4: if (random.nextInt(4) == 0) { text = anyText(); } break;
            case 5: a = some(32, 126); same("type(" + a + ")", x.type(a), m.type(a)); break;
            case 6: if (random.nextInt(4) == 0) { same("block()", x.block(), m.block()); } break;
            case 7: case 8: case 9: case 10: case 11: case 12:
                a = aPerson(); b = some(0, 1); same("in(" + a + "," + b + ")", x.in(a, b), m.in(a, b)); break;
            case 13: case 14: case 15:
                a = aPerson(); same("out(" + a + ")", x.out(a), m.out(a)); break;
            case 16: case 17: case 18: case 19: case 20:
                a = random.nextInt(5) == 0 ? some(1, 60) : some(1, 4); same("steps(" + a + ")", x.steps(a), m.steps(a)); break;
            case 21: case 22:
                a = random.nextInt(5) == 0 ? some(1, 60) : some(1, 6); same("drift(" + a + ")", x.drift(a), m.drift(a)); break;
            case 23: case 24: same("undo()", x.undo(), m.undo()); break;
            case 25: a = random.nextInt(); same("seed(" + a + ")", x.seed(a), m.seed(a)); break;
            case 26: if (random.nextInt(3) == 0) { same("image()", x.image(), m.image()); } break;
            default: if (random.nextInt(3) == 0) { same("restore()", x.restore(), m.restore()); } break;
        }
    }

    private void looking(int which) {
        int a;
        int b;
        int c;
        switch (which) {
            case 0: case 1: case 2: case 3:
                a = aPerson(); b = some(0, 5); same("of(" + a + "," + b + ")", x.of(a, b), m.of(a, b)); break;
            case 4: case 5: case 6:
                a = aCar(); b = some(0, 5); same("car(" + a + "," + b + ")", x.car(a, b), m.car(a, b)); break;
            case 7: case 8: case 9:
                a = some(0, 8); same("count(" + a + ")", x.count(a), m.count(a)); break;
            case 10:
                a = aFloor(); b = some(0, 1); c = some(0, 999);
                same("at(" + a + "," + b + "," + c + ")", x.at(a, b, c), m.at(a, b, c)); break;
            case 11: a = aCar(); b = some(0, 999); same("place(" + a + "," + b + ")", x.place(a, b), m.place(a, b)); break;
            case 12: case 13:
                a = some(0, 6); b = aFloor(); c = some(0, 1);
                same("comes(" + a + "," + b + "," + c + ")", x.comes(a, b, c), m.comes(a, b, c)); break;
            case 14: a = some(0, 1); same("heaviest(" + a + ")", x.heaviest(a), m.heaviest(a)); break;
            case 15: a = some(0, 30); b = some(0, 100); same("goes(" + a + "," + b + ")", x.goes(a, b), m.goes(a, b)); break;
            default: sheets(which - 16); break;
        }
    }

    private void sheets(int which) {
        int s = some(0, 3);
        int lane = some(0, 3) & (random.nextInt(3) == 0 ? -1 : 1);
        int i = some(0, random.nextInt(3) == 0 ? 23 : 4);
        int n = some(1, 4);
        switch (which) {
            case 0: {
                n = random.nextInt(3) == 0 ? some(0, 24) : some(4, 24);
                same("sheet(" + s + "," + lane + "," + n + ")", x.sheet(s, lane, n), m.sheet(s, lane, n));
                break;
            }
            case 1: if (random.nextInt(4) == 0) { same("drop(" + s + ")", x.drop(s), m.drop(s)); } break;
            case 2: case 3: {
                long v = random.nextInt(4) == 0 ? random.nextLong() : some(0, 20);
                same("item(" + s + "," + lane + "," + i + "," + v + ")", x.item(s, lane, i, v), m.item(s, lane, i, v));
                break;
            }
            case 4: {
                int to = some(0, 3);
                int j = some(0, 6);
                n = some(0, 8);
                same("copy(" + s + "," + i + "," + to + "," + j + "," + n + ")", x.copy(s, i, to, j, n), m.copy(s, i, to, j, n));
                break;
            }
            case 5: {
                int floor = aFloor();
                int side = some(0, 1);
                n = some(1, 24);
                same("film(" + floor + "," + side + "," + n + "," + s + "," + lane + "," + i + ")",
                    x.film(floor, side, n, s, lane, i), m.film(floor, side, n, s, lane, i));
                break;
            }
            default: {
                int what = some(0, 1);
                same("weighed(" + s + "," + lane + "," + i + "," + n + "," + what + ")",
                    x.weighed(s, lane, i, n, what), m.weighed(s, lane, i, n, what));
                break;
            }
        }
    }

    private void foretelling(int which) {
        int p = aPerson();
        int floor = aFloor();
        int day = some(0, 6);
        int what = some(0, 1);
        String rest = "(" + p + "," + floor + "," + day + "," + what + ")";
        switch (which) {
            case 0: case 1: case 2:
                same("soonest" + rest, x.soonest(p, floor, day, what), m.soonest(p, floor, day, what)); break;
            case 3: same("never(" + p + "," + day + ")", x.never(p, day), m.never(p, day)); break;
            case 4: case 5: {
                int other = aPerson();
                what = some(0, 2);
                same("meet(" + p + "," + other + "," + what + ")", x.meet(p, other, what), m.meet(p, other, what));
                break;
            }
            default: same("changed" + rest, x.changed(p, floor, day, what), m.changed(p, floor, day, what)); break;
        }
    }
}
