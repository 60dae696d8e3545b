import java.util.Random;

/**
 * Runs of 512 calls by fixed seeds, each answered by the class and by the plain model, alike. The last calls of a
 * run are one of each kind, so that each kind is also the 512th call of some run.
 */
public final class ModelTest {
    private static final int RUNS = 620, FORETELLING_RUNS = 62, KINDS_OF_CALLS = 31;
    private static final int[] EDGES = {Integer.MIN_VALUE, -2, -1, 0, 1, 2, 3, 4, 5, 6, 7, 8, 9, 10, 11, 12, 23, 24, 25,
        30, 31, 59, 60, 61, 99, 100, 101, 999, 1000, 9999, Integer.MAX_VALUE};
    /** How often each kind of call is made, by its place in the document; 0: only by a rarer choice. */
    private static final int[] OFTEN = {8, 16, 12, 4, 4, 4, 1, 12, 24, 12, 20, 8, 8, 4, 4, 4, 8, 0, 0, 0, 4, 0, 4, 2, 2,
        8, 4, 6, 1, 8, 5};
    private static final int[] FORETELLING = {17, 17, 17, 18, 19, 19, 21};
    private static final int TEXT_ONE_OF = 130, MOST_SLOW_ONE_OF = 5, SLOW_ONE_OF = 28;
    private static final char TEXT_ENDS = '\n';

    private final Random random;
    private final Pair pair = new Pair();
    private String text = "";

    private ModelTest(long seed) {
        random = new Random(seed);
    }

    public static void main(String[] args) {
        for (int run = 0; run < RUNS && !Check.anyWrong(); run++) {
            new ModelTest(run).calls(run);
        }
        Check.end();
    }

    /** The model's foretelling is slow: only the first runs have much of it. */
    private void calls(int run) {
        int slowOneOf = run < FORETELLING_RUNS ? MOST_SLOW_ONE_OF : SLOW_ONE_OF;
        while (pair.left() > KINDS_OF_CALLS && pair.isAlike()) {
            if (!text.isEmpty()) {
                typeOn();
            } else if (random.nextInt(TEXT_ONE_OF) == 0) {
                text = anyText();
            } else if (random.nextInt(slowOneOf) == 0) {
                call(FORETELLING[random.nextInt(FORETELLING.length)]);
            } else {
                call(anyKind());
            }
        }
        for (int k = 1; k <= KINDS_OF_CALLS && pair.isAlike(); k++) {
            call((run + k) % KINDS_OF_CALLS);
        }
        if (!pair.isAlike()) {
            System.out.println("run " + run + ":\n" + pair.story());
        }
        Check.that("run " + run + " has 512 calls", pair.left() == 0);
    }

    private int anyKind() {
        int all = 0;
        for (int often : OFTEN) {
            all += often;
        }
        int rest = random.nextInt(all);
        int kind = 0;
        while (rest >= OFTEN[kind]) {
            rest -= OFTEN[kind];
            kind++;
        }
        return kind;
    }

    /** Mostly within these bounds, at times just beyond them, at times an edge of something else. */
    private int some(int low, int high) {
        int luck = random.nextInt(60);
        if (luck == 0) {
            return EDGES[random.nextInt(EDGES.length)];
        }
        if (luck == 1) {
            return random.nextBoolean() ? low - 1 : high + 1;
        }
        return low + random.nextInt(high - low + 1);
    }

    private boolean oneOf(int n) {
        return random.nextInt(n) == 0;
    }

    private int aPerson() {
        return some(0, Math.max(0, pair.people() - 1));
    }

    private int aFloor() {
        return some(0, pair.high() - 1);
    }

    private int aCar() {
        return some(0, 2 * pair.high() - 1);
    }

    private int aSide() {
        return some(0, 1);
    }

    private int aDay() {
        return some(0, 6);
    }

    private int aSheet() {
        return some(0, 3);
    }

    /** Bytes and shorts more often, so that lanes are alike more often. */
    private int aLane() {
        return some(0, 3) & (oneOf(3) ? -1 : 1);
    }

    private int anItem() {
        return some(0, oneOf(3) ? 23 : 4);
    }

    private String anyText() {
        StringBuilder s = new StringBuilder();
        int high = 2 + random.nextInt(5);
        s.append(high).append(';');
        for (int k = 0; k < 2 * high; k++) {
            s.append(random.nextInt(7));
        }
        s.append(';');
        int people = 1 + random.nextInt(oneOf(8) ? 7 : 6);
        for (int p = 0; p < people; p++) {
            s.append(p == 0 ? "" : ",").append("pshka".charAt(random.nextInt(5))).append(1 + random.nextInt(9));
            s.append(random.nextInt(high)).append(random.nextInt(7));
        }
        for (int k = random.nextInt(3); k > 0; k--) {
            s.insert(random.nextInt(s.length() + 1), ' ');
        }
        switch (random.nextInt(4)) {
            case 0: s.setCharAt(random.nextInt(s.length()), (char) (32 + random.nextInt(95))); break;
            case 1: s.setLength(random.nextInt(s.length() + 1)); break;
            default: break;
        }
        return s.append(TEXT_ENDS).toString();
    }

    private void typeOn() {
        if (text.charAt(0) == TEXT_ENDS) {
            pair.block();
        } else {
            pair.type(text.charAt(0));
        }
        text = text.substring(1);
    }

    /** One call of a kind, by its place in the document. */
    private void call(int kind) {
        switch (kind) {
            case 0: pair.person(some(0, 4), some(1, 9), aFloor(), aDay()); break;
            case 1: pair.of(aPerson(), some(0, 5)); break;
            case 2: pair.car(aCar(), some(0, 5)); break;
            case 3: pair.day(aCar(), aDay()); break;
            case 4: pair.rule(some(0, 1), some(1, 30)); break;
            case 5: pair.type(some(32, 126)); break;
            case 6: pair.block(); break;
            case 7: pair.count(some(0, 8)); break;
            case 8: pair.in(aPerson(), aSide()); break;
            case 9: pair.out(aPerson()); break;
            case 10: pair.steps(oneOf(5) ? some(1, 60) : some(1, 4)); break;
            case 11: pair.drift(oneOf(5) ? some(1, 60) : some(1, 6)); break;
            case 12: pair.undo(); break;
            case 13: pair.seed(random.nextInt()); break;
            case 14: pair.at(aFloor(), aSide(), some(0, 999)); break;
            case 15: pair.place(aCar(), some(0, 999)); break;
            case 16: pair.comes(aDay(), aFloor(), aSide()); break;
            case 17: pair.soonest(aPerson(), aFloor(), aDay(), some(0, 1)); break;
            case 18: pair.never(aPerson(), aDay()); break;
            case 19: pair.meet(aPerson(), aPerson(), some(0, 2)); break;
            case 20: pair.heaviest(some(0, 1)); break;
            case 21: pair.changed(aPerson(), aFloor(), aDay(), some(0, 1)); break;
            default: callOfSheets(kind); break;
        }
    }

    private void callOfSheets(int kind) {
        switch (kind) {
            case 22: pair.goes(some(0, 30), some(0, 100)); break;
            case 23: pair.image(); break;
            case 24: pair.restore(); break;
            case 25: pair.weighed(aSheet(), aLane(), anItem(), some(1, 4), some(0, 1)); break;
            case 26: pair.film(aFloor(), aSide(), some(1, 24), aSheet(), aLane(), anItem()); break;
            case 27: pair.sheet(aSheet(), aLane(), oneOf(3) ? some(0, 24) : some(4, 24)); break;
            case 28: pair.drop(aSheet()); break;
            case 29: pair.item(aSheet(), aLane(), anItem(), oneOf(4) ? random.nextLong() : some(0, 20)); break;
            default: pair.copy(aSheet(), anItem(), aSheet(), some(0, 6), some(0, 8)); break;
        }
    }
}
