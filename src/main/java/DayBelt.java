/**
 * A paternoster whose cars are days of the week: people who ride it, what is
 * foretold of them, and sheets of numbers about it. Wrong calls are answered by
 * numbers below 0; no call throws.
 */
public final class DayBelt {
    public static final int BAD = -1, NOT = -2, FULL = -3, NONE = -4, NULL = -11, CAST = -12, INDEX = -13, SIZE = -14;

    private static final int LEAST_HIGH = 2, MOST_HIGH = 6, MOST_CARS = 2 * MOST_HIGH, WEEK = 7;
    private static final int MOST_PEOPLE = 6, MOST_WEIGHT = 9, NO_CAR = -1;
    private static final int MOST_LIMIT = 60, LEAST_NOON = 2, MOST_NOON = 24;
    private static final int MOST_AT_ONCE = 60, MOST_STEPS = 9999, MOST_UNDONE = 8;
    private static final int MOST_FORETOLD = 999, MOST_WAY = 60, MOST_COMING = 11;
    private static final int MILLION = 1000000, HUNDRED = 100, MOST_GOING = 30;
    private static final int MOST_LETTERS = 60, FIRST_LETTER = 32, LAST_LETTER = 126, FAULT = -20, BLANK = ' ';
    private static final String KIND_LETTERS = "pshka";
    private static final int SHEETS = 4, LANES = 4, MOST_ITEMS = 24, NO_LANE = -1, FINE = 0;
    private static final int MOST_WEIGHED = 4, MOST_WEIGHED_LOAD = 999;
    private static final Kind[] KINDS = Kind.values();

    private final Belt now = new Belt();
    private final Belt kept = new Belt();
    private boolean anyKept;
    private final Tape tape = new Tape();
    private final BlockReader reader = new BlockReader();
    private final Scene ahead = new Scene();
    private final Walker walker = new Walker();
    private final Walker otherWalker = new Walker();
    private final Weighing weighing = new Weighing();
    private final Sheet[] sheets = new Sheet[SHEETS];

    public DayBelt() {
        for (int s = 0; s < SHEETS; s++) {
            sheets[s] = new Sheet();
        }
    }

    // ---- 1 people, cars

    public int person(int kind, int weight, int floor, int day) {
        if (!within(kind, 0, KINDS.length - 1) || !within(weight, 1, MOST_WEIGHT) || !isFloor(floor) || !isDay(day)) {
            return BAD;
        }
        if (now.scene.count >= MOST_PEOPLE) {
            return FULL;
        }
        now.scene.add(KINDS[kind], weight, floor, day);
        now.history.clear();
        return now.scene.count - 1;
    }

    public int of(int person, int what) {
        if (!isPerson(person)) {
            return BAD;
        }
        Person one = now.scene.people[person];
        switch (what) {
            case 0: return one.kind.number;
            case 1: return one.weighs();
            case 2: return now.floorOf(one);
            case 3: return one.rides() ? one.car : NONE;
            case 4: return now.dayOf(one);
            case 5: return one.lunches;
            default: return BAD;
        }
    }

    public int car(int car, int what) {
        if (!isCar(car)) {
            return BAD;
        }
        int place = now.block.placeOf(car, now.scene.steps);
        switch (what) {
            case 0: return now.block.days[car];
            case 1: return place;
            case 2: return now.block.floorAt(place);
            case 3: return now.block.sideAt(place);
            case 4: return now.scene.load(car);
            case 5: return now.scene.riders(car);
            default: return BAD;
        }
    }

    public int day(int car, int v) {
        if (!isCar(car) || !isDay(v)) {
            return BAD;
        }
        int old = now.block.days[car];
        now.block.days[car] = v;
        return old;
    }

    public int rule(int what, int v) {
        if (what == 0 && within(v, 1, MOST_LIMIT)) {
            int old = now.block.limit;
            now.block.limit = v;
            return old;
        }
        if (what == 1 && within(v, LEAST_NOON, MOST_NOON)) {
            int old = now.block.noon;
            now.block.noon = v;
            return old;
        }
        return BAD;
    }

    public int type(int letter) {
        if (!within(letter, FIRST_LETTER, LAST_LETTER)) {
            return BAD;
        }
        return tape.add(letter) ? tape.length : FULL;
    }

    public int block() {
        boolean good = reader.reads(tape);
        int fault = FAULT - tape.next;
        tape.clear();
        if (!good) {
            return fault;
        }
        now.begin(reader.block, reader.scene);
        return now.scene.count;
    }

    public int count(int what) {
        switch (what) {
            case 0: return now.scene.count;
            case 1: return now.scene.steps;
            case 2: return now.block.high;
            case 3: return now.block.limit;
            case 4: return now.block.noon;
            case 5: return now.history.size;
            case 6: return now.scene.allRiders();
            case 7: return now.scene.allLunches();
            case 8: return now.scene.fewestLunches();
            default: return BAD;
        }
    }

    // ---- what is done

    public int in(int person, int side) {
        if (!isPerson(person) || !isSide(side)) {
            return BAD;
        }
        Person one = now.scene.people[person];
        if (one.rides()) {
            return NOT;
        }
        int car = now.carBy(one.floor, side, 0);
        if (!one.kind.anyLoad && now.scene.load(car) + one.weighs() > now.block.limit) {
            return FULL;
        }
        now.history.push(now.scene);
        one.car = car;
        return car;
    }

    public int out(int person) {
        if (!isPerson(person)) {
            return BAD;
        }
        Person one = now.scene.people[person];
        if (!one.rides()) {
            return NOT;
        }
        now.history.push(now.scene);
        one.getOut(now.block, now.scene.steps);
        return one.floor;
    }

    public int steps(int n) {
        if (!within(n, 1, MOST_AT_ONCE)) {
            return BAD;
        }
        if (now.scene.steps + n > MOST_STEPS) {
            return FULL;
        }
        for (int k = 0; k < n; k++) {
            now.step();
        }
        return now.scene.allRiders();
    }

    public int drift(int n) {
        if (!within(n, 1, MOST_AT_ONCE)) {
            return BAD;
        }
        if (now.scene.steps + n > MOST_STEPS) {
            return FULL;
        }
        int stood = 0;
        for (int k = 0; k < n; k++) {
            if (!now.stepByDraw()) {
                stood++;
            }
        }
        return stood;
    }

    public int undo() {
        if (now.history.size == 0) {
            return NONE;
        }
        now.history.pop(now.scene);
        return now.history.size;
    }

    public int seed(int v) {
        if (v < 0) {
            return BAD;
        }
        int old = now.scene.draw;
        now.scene.draw = v;
        return old;
    }

    // ---- 2 foretold

    public int at(int floor, int side, int n) {
        if (!isFloor(floor) || !isSide(side) || !within(n, 0, MOST_FORETOLD)) {
            return BAD;
        }
        return now.carBy(floor, side, n);
    }

    public int place(int car, int n) {
        if (!isCar(car) || !within(n, 0, MOST_FORETOLD)) {
            return BAD;
        }
        return now.block.placeOf(car, now.scene.steps + n);
    }

    public int comes(int day, int floor, int side) {
        if (!isDay(day) || !isFloor(floor) || !isSide(side)) {
            return BAD;
        }
        for (int n = 0; n <= MOST_COMING; n++) {
            if (now.block.days[now.carBy(floor, side, n)] == day) {
                return n;
            }
        }
        return NONE;
    }

    public int soonest(int person, int floor, int day, int what) {
        if (!isPerson(person) || !isFloor(floor) || !isDay(day) || !within(what, 0, 1)) {
            return BAD;
        }
        walker.begin(now, now.scene.people[person]);
        long goal = Walker.spot(floor, day);
        int n = walker.fewestSteps(goal, MOST_WAY);
        if (n == NONE || what == 0) {
            return n;
        }
        return walker.firstMove(goal, n);
    }

    public int never(int person, int day) {
        if (!isPerson(person) || !isDay(day)) {
            return BAD;
        }
        walker.begin(now, now.scene.people[person]);
        long reached = walker.allReached();
        int floors = 0;
        for (int floor = 0; floor < now.block.high; floor++) {
            if ((reached & Walker.spot(floor, day)) == 0) {
                floors |= 1 << floor;
            }
        }
        return floors;
    }

    public int meet(int person, int other, int what) {
        if (!isPerson(person) || !isPerson(other) || person == other || !within(what, 0, 2)) {
            return BAD;
        }
        walker.begin(now, now.scene.people[person]);
        otherWalker.begin(now, now.scene.people[other]);
        for (int n = 0; n <= MOST_WAY; n++) {
            long one = walker.moved(Walker.ANY_MOVE);
            long two = otherWalker.moved(Walker.ANY_MOVE);
            int spot = Walker.leastSpot(one & two);
            if (spot != NONE) {
                return what == 0 ? n : what == 1 ? spot / WEEK : spot % WEEK;
            }
            walker.goOn(one);
            otherWalker.goOn(two);
        }
        return NONE;
    }

    public int heaviest(int what) {
        if (!within(what, 0, 1)) {
            return BAD;
        }
        int first = 0;
        int most = now.scene.load(0);
        for (int car = 1; car < now.block.cars(); car++) {
            int load = now.scene.load(car);
            if (load > most) {
                first = car;
                most = load;
            }
        }
        return what == 0 ? first : most;
    }

    public int changed(int person, int floor, int day, int what) {
        if (!isPerson(person) || !isFloor(floor) || !isDay(day) || !within(what, 0, 1)) {
            return BAD;
        }
        walker.begin(now, now.scene.people[person]);
        return walker.bestChange(Walker.spot(floor, day), day, what == 1);
    }

    public int goes(int n, int s) {
        if (!within(n, 0, MOST_GOING) || !within(s, 0, HUNDRED)) {
            return BAD;
        }
        int left = MILLION;
        for (int k = 0; k < n; k++) {
            left = left * (HUNDRED - s) / HUNDRED;
        }
        return left;
    }

    public int image() {
        kept.take(now);
        anyKept = true;
        return 1;
    }

    public int restore() {
        if (!anyKept) {
            return NONE;
        }
        now.take(kept);
        return 1;
    }

    // ---- 3 sheets

    public int weighed(int sheet, int lane, int i, int n, int what) {
        if (!isSheet(sheet) || !isLane(lane) || !within(n, 1, MOST_WEIGHED) || !within(what, 0, 1)) {
            return BAD;
        }
        Sheet row = sheets[sheet];
        int refusal = row.refusal(lane, i, n);
        if (refusal != FINE) {
            return refusal;
        }
        for (int k = i; k < i + n; k++) {
            if (row.items[k] < 0 || row.items[k] > MOST_WEIGHED_LOAD) {
                return NOT;
            }
        }
        weighing.begin(now.scene);
        for (int k = i; k < i + n; k++) {
            weighing.addCar(row.items[k]);
        }
        return what == 0 ? weighing.allWays() : weighing.leastSet();
    }

    public int film(int floor, int side, int n, int sheet, int lane, int i) {
        if (!isFloor(floor) || !isSide(side) || !within(n, 1, MOST_ITEMS) || !isSheet(sheet) || !isLane(lane)) {
            return BAD;
        }
        Sheet row = sheets[sheet];
        int refusal = row.refusal(lane, i, n);
        if (refusal != FINE) {
            return refusal;
        }
        ahead.take(now.scene);
        for (int k = 0; k < n; k++) {
            ahead.goOn(now.block);
            row.put(i + k, ahead.load(now.carBy(floor, side, k + 1)));
        }
        return n;
    }

    public int sheet(int sheet, int lane, int n) {
        if (!isSheet(sheet) || !isLane(lane) || n > MOST_ITEMS) {
            return BAD;
        }
        if (n < 0) {
            return SIZE;
        }
        sheets[sheet].begin(lane, n);
        return n;
    }

    public int drop(int sheet) {
        if (!isSheet(sheet)) {
            return BAD;
        }
        Sheet row = sheets[sheet];
        if (row.isMissing()) {
            return NULL;
        }
        int had = row.size;
        row.begin(NO_LANE, 0);
        return had;
    }

    public int item(int sheet, int lane, int i, long v) {
        if (!isSheet(sheet) || !isLane(lane)) {
            return BAD;
        }
        Sheet row = sheets[sheet];
        int refusal = row.refusal(lane, i, 1);
        if (refusal != FINE) {
            return refusal;
        }
        row.put(i, v);
        return 1;
    }

    public int copy(int from, int i, int to, int j, int n) {
        if (!isSheet(from) || !isSheet(to)) {
            return BAD;
        }
        Sheet source = sheets[from];
        Sheet target = sheets[to];
        if (source.isMissing() || target.isMissing()) {
            return NULL;
        }
        if (source.lane != target.lane) {
            return CAST;
        }
        if (!source.holds(i, n) || !target.holds(j, n)) {
            return INDEX;
        }
        System.arraycopy(source.items, i, target.items, j, n);
        return n;
    }

    // ---- what numbers may be

    private static boolean within(int v, int least, int most) {
        return v >= least && v <= most;
    }

    private boolean isPerson(int v) {
        return within(v, 0, now.scene.count - 1);
    }

    private boolean isFloor(int v) {
        return within(v, 0, now.block.high - 1);
    }

    private boolean isCar(int v) {
        return within(v, 0, now.block.cars() - 1);
    }

    private static boolean isSide(int v) {
        return within(v, 0, 1);
    }

    private static boolean isDay(int v) {
        return within(v, 0, WEEK - 1);
    }

    private static boolean isSheet(int v) {
        return within(v, 0, SHEETS - 1);
    }

    private static boolean isLane(int v) {
        return within(v, 0, LANES - 1);
    }

    /** What v leaves over by n, not below 0 even if v is; the one place that divides by what may change. */
    private static int leftOver(int v, int n) {
        return n > 0 ? Math.floorMod(v, n) : 0;
    }

    /** A kind below another one has what that has, but for what is told of it alone. */
    private enum Kind {
        PLAIN(0, 1, false, false, false),
        SHY(1, 1, false, true, true),
        HEAVY(2, 2, false, false, false),
        PORTER(3, 2, true, false, false),
        AUNT(4, 1, false, false, true);

        final int number;
        final int times;
        final boolean anyLoad;
        final boolean outAbove;
        final boolean outBelow;

        Kind(int number, int times, boolean anyLoad, boolean outAbove, boolean outBelow) {
            this.number = number;
            this.times = times;
            this.anyLoad = anyLoad;
            this.outAbove = outAbove;
            this.outBelow = outBelow;
        }
    }

    /** While one rides, its floor and day are told by the car: these fields are then stale. */
    private static final class Person {
        Kind kind = Kind.PLAIN;
        int weight;
        int floor;
        int day;
        int car = NO_CAR;
        int lunches;

        void begin(Kind itsKind, int itsWeight, int itsFloor, int itsDay) {
            kind = itsKind;
            weight = itsWeight;
            floor = itsFloor;
            day = itsDay;
            car = NO_CAR;
            lunches = 0;
        }

        void take(Person other) {
            kind = other.kind;
            weight = other.weight;
            floor = other.floor;
            day = other.day;
            car = other.car;
            lunches = other.lunches;
        }

        int weighs() {
            return weight * kind.times;
        }

        boolean rides() {
            return car != NO_CAR;
        }

        void getOut(Block block, int steps) {
            floor = block.floorAt(block.placeOf(car, steps));
            day = block.days[car];
            car = NO_CAR;
        }
    }

    /** What stays as it is when something is undone. */
    private static final class Block {
        int high = 3;
        int limit = 20;
        int noon = 12;
        final int[] days = new int[MOST_CARS];

        Block() {
            for (int car = 0; car < MOST_CARS; car++) {
                days[car] = car % WEEK;
            }
        }

        void take(Block other) {
            limit = other.limit;
            noon = other.noon;
            takeBelt(other);
        }

        void takeBelt(Block other) {
            high = other.high;
            System.arraycopy(other.days, 0, days, 0, MOST_CARS);
        }

        /** As many as there are places. */
        int cars() {
            return 2 * high;
        }

        int floorAt(int place) {
            return place < high ? place : cars() - 1 - place;
        }

        int sideAt(int place) {
            return place < high ? 0 : 1;
        }

        int placeBy(int floor, int side) {
            return side == 0 ? floor : cars() - 1 - floor;
        }

        int placeOf(int car, int steps) {
            return leftOver(car + steps, cars());
        }

        int carIn(int place, int steps) {
            return leftOver(place - steps, cars());
        }
    }

    /** What is brought back when something is undone. */
    private static final class Scene {
        final Person[] people = new Person[MOST_PEOPLE];
        int count;
        int steps;
        int draw = 1;

        Scene() {
            for (int p = 0; p < MOST_PEOPLE; p++) {
                people[p] = new Person();
            }
        }

        void take(Scene other) {
            takePeople(other);
            steps = other.steps;
            draw = other.draw;
        }

        void takePeople(Scene other) {
            count = other.count;
            for (int p = 0; p < count; p++) {
                people[p].take(other.people[p]);
            }
        }

        void add(Kind kind, int weight, int floor, int day) {
            if (count < MOST_PEOPLE) {
                people[count].begin(kind, weight, floor, day);
                count++;
            }
        }

        void goOn(Block block) {
            steps++;
            boolean lunch = leftOver(steps, block.noon) == 0;
            for (int p = 0; p < count; p++) {
                Person one = people[p];
                if (isTurnedOut(one, block)) {
                    one.getOut(block, steps);
                }
                if (lunch && !one.rides() && one.floor == 0) {
                    one.lunches++;
                }
            }
        }

        private boolean isTurnedOut(Person one, Block block) {
            if (!one.rides()) {
                return false;
            }
            int place = block.placeOf(one.car, steps);
            return (place == 0 && one.kind.outBelow) || (place == block.high && one.kind.outAbove);
        }

        int load(int car) {
            int sum = 0;
            for (int p = 0; p < count; p++) {
                if (people[p].car == car) {
                    sum += people[p].weighs();
                }
            }
            return sum;
        }

        int riders(int car) {
            int set = 0;
            for (int p = 0; p < count; p++) {
                if (people[p].car == car) {
                    set |= 1 << p;
                }
            }
            return set;
        }

        int allRiders() {
            int set = 0;
            for (int p = 0; p < count; p++) {
                if (people[p].rides()) {
                    set |= 1 << p;
                }
            }
            return set;
        }

        int allLunches() {
            int sum = 0;
            for (int p = 0; p < count; p++) {
                sum += people[p].lunches;
            }
            return sum;
        }

        int fewestLunches() {
            if (count == 0) {
                return NONE;
            }
            int fewest = people[0].lunches;
            for (int p = 1; p < count; p++) {
                fewest = Math.min(fewest, people[p].lunches);
            }
            return fewest;
        }
    }

    /** The latest scenes, in a ring, so that an older one gives its room to a new one. */
    private static final class History {
        private final Scene[] ring = new Scene[MOST_UNDONE];
        private int next;
        int size;

        History() {
            for (int k = 0; k < MOST_UNDONE; k++) {
                ring[k] = new Scene();
            }
        }

        void clear() {
            size = 0;
        }

        void push(Scene scene) {
            ring[next].take(scene);
            next = (next + 1) % MOST_UNDONE;
            size = Math.min(size + 1, MOST_UNDONE);
        }

        void pop(Scene scene) {
            if (size > 0) {
                next = (next + MOST_UNDONE - 1) % MOST_UNDONE;
                size--;
                scene.take(ring[next]);
            }
        }

        void take(History other) {
            next = other.next;
            size = other.size;
            for (int k = 0; k < MOST_UNDONE; k++) {
                ring[k].take(other.ring[k]);
            }
        }
    }

    /** All that an image keeps. */
    private static final class Belt {
        final Block block = new Block();
        final Scene scene = new Scene();
        final History history = new History();

        void take(Belt other) {
            block.take(other.block);
            scene.take(other.scene);
            history.take(other.history);
        }

        /** Limit, noon and the draw outlive a new block. */
        void begin(Block newBlock, Scene newScene) {
            block.takeBelt(newBlock);
            scene.takePeople(newScene);
            scene.steps = 0;
            history.clear();
        }

        int carBy(int floor, int side, int n) {
            return block.carIn(block.placeBy(floor, side), scene.steps + n);
        }

        int floorOf(Person one) {
            return one.rides() ? block.floorAt(block.placeOf(one.car, scene.steps)) : one.floor;
        }

        int dayOf(Person one) {
            return one.rides() ? block.days[one.car] : one.day;
        }

        void step() {
            history.push(scene);
            scene.goOn(block);
        }

        /** Whether the belt went; what is undone later undoes the draw as well, so the scene is kept ahead of it. */
        boolean stepByDraw() {
            history.push(scene);
            scene.draw = (scene.draw * 1103515245 + 12345) & 0x7fffffff;
            if (scene.draw / 65536 % 12 < Integer.bitCount(scene.allRiders())) {
                return false;
            }
            scene.goOn(block);
            return true;
        }
    }

    /** Letters, read from the first one on; a letter that is not taken stays next. */
    private static final class Tape {
        private final int[] letters = new int[MOST_LETTERS];
        int length;
        int next;

        boolean add(int letter) {
            if (length >= MOST_LETTERS) {
                return false;
            }
            letters[length] = letter;
            length++;
            return true;
        }

        void clear() {
            length = 0;
            next = 0;
        }

        boolean ends() {
            while (next < length && letters[next] == BLANK) {
                next++;
            }
            return next >= length;
        }

        boolean takes(int letter) {
            if (ends() || letters[next] != letter) {
                return false;
            }
            next++;
            return true;
        }

        /** The digit, or NONE if none of these stands there. */
        int takeDigit(int least, int most) {
            if (ends() || !within(letters[next] - '0', least, most)) {
                return NONE;
            }
            next++;
            return letters[next - 1] - '0';
        }

        /** The number of the kind, or NONE if no kind's letter stands there. */
        int takeKind() {
            int kind = ends() ? -1 : KIND_LETTERS.indexOf((char) letters[next]);
            if (!within(kind, 0, KINDS.length - 1)) {
                return NONE;
            }
            next++;
            return kind;
        }
    }

    /** Reads a block into a place of its own, since a text with a fault must change nothing. */
    private static final class BlockReader {
        final Block block = new Block();
        final Scene scene = new Scene();

        /** If not, the tape's next letter is the faulty one. */
        boolean reads(Tape tape) {
            return readsHigh(tape) && tape.takes(';') && readsDays(tape) && tape.takes(';') && readsPeople(tape);
        }

        private boolean readsHigh(Tape tape) {
            int high = tape.takeDigit(LEAST_HIGH, MOST_HIGH);
            if (high == NONE) {
                return false;
            }
            block.high = high;
            return true;
        }

        private boolean readsDays(Tape tape) {
            for (int car = 0; car < block.cars(); car++) {
                int day = tape.takeDigit(0, WEEK - 1);
                if (day == NONE) {
                    return false;
                }
                block.days[car] = day;
            }
            return true;
        }

        private boolean readsPeople(Tape tape) {
            scene.count = 0;
            for (int p = 0; p < MOST_PEOPLE; p++) {
                if (p > 0 && !tape.takes(',')) {
                    break;
                }
                if (!readsPerson(tape)) {
                    return false;
                }
            }
            return tape.ends();
        }

        private boolean readsPerson(Tape tape) {
            int kind = tape.takeKind();
            if (kind == NONE) {
                return false;
            }
            int weight = tape.takeDigit(1, MOST_WEIGHT);
            if (weight == NONE) {
                return false;
            }
            int floor = tape.takeDigit(0, block.high - 1);
            if (floor == NONE) {
                return false;
            }
            int day = tape.takeDigit(0, WEEK - 1);
            if (day == NONE) {
                return false;
            }
            scene.add(KINDS[kind], weight, floor, day);
            return true;
        }
    }

    /**
     * One who goes all ways at once: all that it could be in by now is a set of bits,
     * a spot (a floor on a day) or a seat (a car, whose day is its own) each. It has a
     * block of its own, so that days can be changed in it.
     */
    private static final class Walker {
        static final int ANY_MOVE = 15;
        private static final int STAY = 0, OUT = 3, MOVES = 4;
        private static final int SPOTS = MOST_HIGH * WEEK;
        private static final long WHOLE_WEEK = (1L << WEEK) - 1;

        private final Block block = new Block();
        private Kind kind = Kind.PLAIN;
        private int startSteps;
        private long start;
        private int steps;
        private long set;

        static long spot(int floor, int day) {
            return 1L << (floor * WEEK + day);
        }

        private static long seat(int car) {
            return 1L << (SPOTS + car);
        }

        /** By its number, 7 to a floor; NONE if there is no spot in the set. */
        static int leastSpot(long set) {
            for (int spot = 0; spot < SPOTS; spot++) {
                if ((set >> spot & 1) != 0) {
                    return spot;
                }
            }
            return NONE;
        }

        void begin(Belt belt, Person one) {
            block.take(belt.block);
            kind = one.kind;
            startSteps = belt.scene.steps;
            start = one.rides() ? seat(one.car) : spot(one.floor, one.day);
            rewind();
        }

        private void rewind() {
            steps = startSteps;
            set = start;
        }

        /** Where it can be by one of these moves (bits), those left out that cannot be done. */
        long moved(int moves) {
            long to = has(moves, STAY) ? set : 0;
            for (int place = 0; place < block.cars(); place++) {
                int car = block.carIn(place, steps);
                int floor = block.floorAt(place);
                boolean stands = (set & (WHOLE_WEEK << (floor * WEEK))) != 0;
                if (stands && has(moves, block.sideAt(place) + 1)) {
                    to |= seat(car);
                }
                if ((set & seat(car)) != 0 && has(moves, OUT)) {
                    to |= spot(floor, block.days[car]);
                }
            }
            return to;
        }

        private static boolean has(int moves, int move) {
            return (moves >> move & 1) != 0;
        }

        void goOn(long moved) {
            set = moved;
            steps++;
            if (kind.outBelow) {
                turnOut(0);
            }
            if (kind.outAbove) {
                turnOut(block.high);
            }
        }

        private void turnOut(int place) {
            int car = block.carIn(place, steps);
            if ((set & seat(car)) != 0) {
                set &= ~seat(car);
                set |= spot(block.floorAt(place), block.days[car]);
            }
        }

        int fewestSteps(long goal, int most) {
            rewind();
            for (int n = 0; n <= most; n++) {
                long moved = moved(ANY_MOVE);
                if ((moved & goal) != 0) {
                    return n;
                }
                goOn(moved);
            }
            return NONE;
        }

        int firstMove(long goal, int n) {
            for (int move = 0; move < MOVES; move++) {
                if (reaches(goal, n, 1 << move)) {
                    return move;
                }
            }
            return NONE;
        }

        private boolean reaches(long goal, int n, int firstMoves) {
            rewind();
            long moved = moved(firstMoves);
            for (int k = 0; k < n; k++) {
                goOn(moved);
                moved = moved(ANY_MOVE);
            }
            return (moved & goal) != 0;
        }

        /** Since who is on a spot may stay there, the last set holds all spots that were ever reached. */
        long allReached() {
            for (int n = 0; n < MOST_WAY; n++) {
                goOn(moved(ANY_MOVE));
            }
            return moved(ANY_MOVE);
        }

        /** The two cars as 100 k and l, or how soon one is there by their change. */
        int bestChange(long goal, int day, boolean howSoon) {
            int n = fewestSteps(goal, MOST_WAY);
            int best = n == NONE ? MOST_WAY + 1 : n;
            int pair = NONE;
            // no change of two makes a day that no car has, and one would look for it in vain for long
            int cars = hasCarOf(day) ? block.cars() : 0;
            for (int k = 0; k < cars; k++) {
                for (int l = k + 1; l < cars; l++) {
                    changeDays(k, l);
                    n = fewestSteps(goal, best - 1);
                    changeDays(k, l);
                    if (n != NONE) {
                        best = n;
                        pair = HUNDRED * k + l;
                    }
                }
            }
            return howSoon && pair != NONE ? best : pair;
        }

        private boolean hasCarOf(int day) {
            for (int car = 0; car < block.cars(); car++) {
                if (block.days[car] == day) {
                    return true;
                }
            }
            return false;
        }

        private void changeDays(int k, int l) {
            int day = block.days[k];
            block.days[k] = block.days[l];
            block.days[l] = day;
        }
    }

    /** Counts, for each set of people, the ways in which just these sit in the cars told so far. */
    private static final class Weighing {
        private static final int MOST_SETS = 1 << MOST_PEOPLE;
        private final int[] weights = new int[MOST_SETS];
        private final int[] ways = new int[MOST_SETS];
        private int sets;

        void begin(Scene scene) {
            sets = 1 << scene.count;
            for (int set = 0; set < sets; set++) {
                weights[set] = weightOf(scene, set);
                ways[set] = set == 0 ? 1 : 0;
            }
        }

        private static int weightOf(Scene scene, int set) {
            int sum = 0;
            for (int p = 0; p < scene.count; p++) {
                if ((set >> p & 1) != 0) {
                    sum += scene.people[p].weighs();
                }
            }
            return sum;
        }

        /** From the greatest set down, as each looks only at itself and at lesser ones, which are still as they were. */
        void addCar(long load) {
            for (int set = sets - 1; set >= 0; set--) {
                int sum = 0;
                for (int riders = 0; riders <= set; riders++) {
                    if ((riders & set) == riders && weights[riders] == load) {
                        sum += ways[set ^ riders];
                    }
                }
                ways[set] = sum;
            }
        }

        int allWays() {
            int sum = 0;
            for (int set = 0; set < sets; set++) {
                sum += ways[set];
            }
            return sum;
        }

        int leastSet() {
            for (int set = 0; set < sets; set++) {
                if (ways[set] > 0) {
                    return set;
                }
            }
            return NONE;
        }
    }

    /** Its room is for the longest row of the widest lane, so that a new row needs none. */
    private static final class Sheet {
        final long[] items = new long[MOST_ITEMS];
        int lane = NO_LANE;
        int size;

        void begin(int newLane, int newSize) {
            lane = newLane;
            size = newSize;
            for (int k = 0; k < MOST_ITEMS; k++) {
                items[k] = 0;
            }
        }

        boolean isMissing() {
            return lane == NO_LANE;
        }

        boolean holds(int i, int n) {
            return i >= 0 && n >= 0 && i <= size - n;
        }

        /** Why n items from i on cannot be had as a row of that lane, or FINE. */
        int refusal(int asLane, int i, int n) {
            if (isMissing()) {
                return NULL;
            }
            if (asLane != lane) {
                return CAST;
            }
            return holds(i, n) ? FINE : INDEX;
        }

        void put(int i, long v) {
            switch (lane) {
                case 0: items[i] = (byte) v; break;
                case 1: items[i] = (short) v; break;
                case 2: items[i] = (int) v; break;
                default: items[i] = v; break;
            }
        }
    }
}
