import java.util.Arrays;

/** A works for wheels that store power: ../shared/DOC.md says what each call does and answers. */
public final class WheelStore {
    public static final int NONE = -1;

    private static final int RINGS_MOST = 5;
    private static final int RING_CELLS = 4;
    private static final int FASTEST = 30;
    private static final int SQUARE_MOST = 900;
    private static final int FIT_MOST = 99;
    private static final int BAD_FIT = -2;
    private static final long NO_STRETCH = -1000000000000L;

    private static final int SLOTS_MOST = 24;
    private static final int SLOT_CELLS = 3;
    private static final int ROOM_MOST = 30;
    private static final int TRADE_MOST = 9;
    private static final int NO_TRADE = -100;
    private static final int NO_INCOME = -100000;
    private static final int NO_CHECK = -100001;

    private static final int HOLES_MOST = 9;
    private static final int HOLE_CELLS = 3;
    private static final int HOLE_FARTHEST = 99;
    private static final int SHAKE_FARTHEST = 999;

    private static final int WHEELS_MOST = 3;
    private static final int WHEEL_CELLS = 2;
    private static final int WHEEL_ROOM_MOST = 6;
    private static final int WHEEL_RATE_MOST = 6;
    private static final int TICKS_MOST = 8;
    private static final int CALLS_MOST = 12;
    private static final int CALL_MOST = 6;
    private static final int MOVES_MOST = 8;
    private static final int MOVE_CELLS = 2;

    private static final int LOSS_MOST = 999;
    private static final int HEAVIEST_ALONE = 99;
    private static final int EIGHTHS = 8;
    private static final int CRACK_MOST = 20;
    private static final int COST_MOST = 9999;
    private static final int ROUNDS_MOST = 10;

    private static final int FAULTS_MOST = 5;
    private static final int SIGNS_MOST = 8;
    private static final int STATES = 32;
    private static final int READINGS_MOST = 12;
    private static final int READING_CELLS = 2;

    // Where each part stands in the row of cells. PLAY stands right behind WHEELS, and in each part
    // its count ahead of what it counts, so that each ACT changes one stretch of cells that hang together.
    private static final int RINGS = 0;
    private static final int SLOTS = RINGS + 1 + RINGS_MOST * RING_CELLS;
    private static final int STORE = SLOTS + SLOTS_MOST * SLOT_CELLS;
    private static final int MISSES = STORE + 3;
    private static final int HOLES = MISSES + 1;
    private static final int SHAKE = HOLES + 1 + HOLES_MOST * HOLE_CELLS;
    private static final int WHEELS = SHAKE + 2;
    private static final int PLAY = WHEELS + 1 + WHEELS_MOST * WHEEL_CELLS;
    private static final int MOVES = PLAY + 2 + WHEELS_MOST;
    private static final int DRAG = MOVES + 1 + MOVES_MOST * MOVE_CELLS;
    private static final int CRACKS = DRAG + FASTEST + 1;
    private static final int COSTS = CRACKS + 4;
    private static final int SIGNS = COSTS + 3;
    private static final int READINGS = SIGNS + FAULTS_MOST;
    private static final int ALL_CELLS = READINGS + 1 + READINGS_MOST * READING_CELLS;

    private final Cells cells;
    private final Acts acts;
    private final Tape tape;
    private final StackReader reader;
    private final Rings rings;
    private final Game game;
    private final Market market;
    private final Balance balance;
    private final Inspection inspection;
    private final Diagnosis diagnosis;

    public WheelStore() {
        cells = new Cells();
        acts = new Acts(cells);
        tape = new Tape();
        reader = new StackReader(tape);
        rings = new Rings(cells);
        game = new Game(cells);
        market = new Market(cells);
        balance = new Balance(cells);
        inspection = new Inspection(cells);
        diagnosis = new Diagnosis(cells);
    }

    // ---- the TAPE and the STACK

    public int feed(int a, int b, int c, int d, int e) {
        if (!tape.hasPlaceFor(5 * Tape.NUMBER_BYTES)) {
            return NONE;
        }
        tape.addNumber(a);
        tape.addNumber(b);
        tape.addNumber(c);
        tape.addNumber(d);
        tape.addNumber(e);
        return tape.size();
    }

    public int end(int n) {
        if (!within(n, 0, tape.size())) {
            return NONE;
        }
        tape.cutTo(n);
        return n;
    }

    public int stack() {
        boolean holds = reader.readTape();
        tape.cutTo(0);
        if (!holds) {
            return NONE;
        }
        acts.begins(RINGS, SLOTS - RINGS);
        cells.put(RINGS, reader.rings());
        for (int i = 0; i < RINGS_MOST * RING_CELLS; i++) {
            cells.put(RINGS + 1 + i, reader.ringCell(i));
        }
        return reader.rings();
    }

    public int fault(int what) {
        if (what == 0) {
            return reader.reason();
        }
        return what == 1 ? reader.place() : NONE;
    }

    public long press(int fit, int w, int part) {
        if (!rings.hasFit(fit) || !within(w, 0, SQUARE_MOST) || !within(part, 0, 1)) {
            return NONE;
        }
        rings.turnAt(w);
        return inLowestTerms(rings.pressUpper(fit), rings.pressLower(fit), part);
    }

    public long gap(int fit, int w, int part) {
        if (!rings.hasFit(fit) || !within(w, 0, SQUARE_MOST) || !within(part, 0, 1)) {
            return NONE;
        }
        rings.turnAt(w);
        return inLowestTerms(rings.gapUpper(fit), rings.gapLower(fit), part);
    }

    public long stretch(int ring, int w, int part) {
        if (!rings.hasRing(ring) || !within(w, 0, SQUARE_MOST) || !within(part, 0, 1)) {
            return NO_STRETCH;
        }
        rings.turnAt(w);
        return inLowestTerms(rings.stretchUpper(ring), rings.stretchLower(ring), part);
    }

    public int opens(int fit) {
        return rings.hasFit(fit) ? rings.leastSquareThatOpens(fit) : NONE;
    }

    public int most() {
        return rings.greatestSpeed();
    }

    public int best(int a, int b, int c) {
        if (!isFit(a) || !isFit(b) || !isFit(c)) {
            return BAD_FIT;
        }
        rings.chooseFits(a, b, c);
        return rings.speedOfChosen();
    }

    public int chosen(int a, int b, int c, int fit) {
        if (!isFit(a) || !isFit(b) || !isFit(c) || !rings.hasFit(fit)) {
            return NONE;
        }
        rings.chooseFits(a, b, c);
        return rings.choiceOf(fit);
    }

    // ---- THE GAME

    public int wheel(int room, int rate) {
        int number = cells.get(WHEELS);
        if (number >= WHEELS_MOST || !within(room, 0, WHEEL_ROOM_MOST) || !within(rate, 1, WHEEL_RATE_MOST)) {
            return NONE;
        }
        acts.begins(WHEELS, DRAG - WHEELS);
        cells.put(WHEELS, number + 1);
        cells.put(WHEELS + 1 + number * WHEEL_CELLS, room);
        cells.put(WHEELS + 1 + number * WHEEL_CELLS + 1, rate);
        for (int at = PLAY; at < DRAG; at++) {
            cells.put(at, 0);
        }
        return number;
    }

    public int worst(int ticks, int calls, int a, int b, int c) {
        return game.canStand(ticks, calls, a, b, c) ? game.worstOf(ticks, calls, chargesOf(a, b, c)) : NONE;
    }

    public int call(int ticks, int calls, int a, int b, int c) {
        if (ticks == 0 || !game.canStand(ticks, calls, a, b, c)) {
            return NONE;
        }
        return game.worstCall(ticks, calls, chargesOf(a, b, c));
    }

    public int give(int ticks, int calls, int a, int b, int c, int call) {
        if (ticks == 0 || !game.canStand(ticks, calls, a, b, c) || !within(call, 0, Math.min(CALL_MOST, calls))) {
            return NONE;
        }
        return game.bestGive(ticks, calls, chargesOf(a, b, c), call);
    }

    public boolean begin(int ticks, int calls, int a, int b, int c) {
        if (!game.canStand(ticks, calls, a, b, c)) {
            return false;
        }
        acts.begins(PLAY, DRAG - PLAY);
        cells.put(PLAY, ticks);
        cells.put(PLAY + 1, calls);
        cells.put(PLAY + 2, a);
        cells.put(PLAY + 3, b);
        cells.put(PLAY + 4, c);
        cells.put(MOVES, 0);
        return true;
    }

    public boolean move(int call, int give) {
        int number = cells.get(MOVES);
        if (number >= MOVES_MOST || !game.canMove(call, give)) {
            return false;
        }
        acts.begins(PLAY, DRAG - PLAY);
        cells.put(MOVES, number + 1);
        cells.put(MOVES + 1 + number * MOVE_CELLS, call);
        cells.put(MOVES + 1 + number * MOVE_CELLS + 1, give);
        return true;
    }

    public int play(int what) {
        return within(what, 0, 6) ? game.ofPlay(what) : NONE;
    }

    public int blame(int n, int who) {
        if (!within(n, 0, cells.get(MOVES) - 1) || !within(who, 0, 1)) {
            return NONE;
        }
        return who == 0 ? game.blameOfCall(n) : game.blameOfGive(n);
    }

    // ---- THE STORE

    public boolean price(int slot, int buy, int sell) {
        if (!isSlot(slot) || !within(buy, 0, 99) || !within(sell, 0, 99)) {
            return false;
        }
        int at = SLOTS + slot * SLOT_CELLS;
        acts.begins(at, 2);
        cells.put(at, buy);
        cells.put(at + 1, sell);
        return true;
    }

    public boolean store(int room, int rate, int leak) {
        if (!within(room, 0, ROOM_MOST) || !within(rate, 1, TRADE_MOST) || !within(leak, 0, 100)) {
            return false;
        }
        acts.begins(STORE, 3);
        cells.put(STORE, room);
        cells.put(STORE + 1, rate);
        cells.put(STORE + 2, leak);
        return true;
    }

    public boolean misses(int by) {
        if (!within(by, 0, 30)) {
            return false;
        }
        acts.begins(MISSES, 1);
        cells.put(MISSES, by);
        return true;
    }

    public int value(int slot, int charge) {
        if (!within(slot, 0, SLOTS_MOST) || !isCharge(charge)) {
            return NONE;
        }
        return market.valueOf(slot, charge);
    }

    public int trade(int slot, int charge, int way) {
        if (!isSlot(slot) || !isCharge(charge) || !within(way, 0, 2)) {
            return NO_TRADE;
        }
        return market.bestTrade(slot, charge, way);
    }

    public int worth(int slot, int charge) {
        if (!within(slot, 0, SLOTS_MOST) || !within(charge, 0, cells.get(STORE) - 1)) {
            return NO_INCOME;
        }
        return market.valueOf(slot, charge + 1) - market.valueOf(slot, charge);
    }

    public boolean plan(int slot, int q) {
        if (!isSlot(slot) || !within(q, -TRADE_MOST, TRADE_MOST)) {
            return false;
        }
        int at = SLOTS + slot * SLOT_CELLS + 2;
        acts.begins(at, 1);
        cells.put(at, q);
        return true;
    }

    public int check(int charge, int what) {
        if (!isCharge(charge) || !within(what, 0, 2)) {
            return NO_CHECK;
        }
        market.walkPlan(charge);
        if (what == 0) {
            return market.slotThatFails();
        }
        return what == 1 ? market.reasonOfFailing() : market.incomeOfPlan();
    }

    // ---- HOLES and SHAKE

    public int hole(int x, int y, int most) {
        int number = cells.get(HOLES);
        if (number >= HOLES_MOST || !within(most, 1, 2)) {
            return NONE;
        }
        if (!within(x, -HOLE_FARTHEST, HOLE_FARTHEST) || !within(y, -HOLE_FARTHEST, HOLE_FARTHEST)) {
            return NONE;
        }
        acts.begins(HOLES, SHAKE - HOLES);
        int at = HOLES + 1 + number * HOLE_CELLS;
        cells.put(HOLES, number + 1);
        cells.put(at, x);
        cells.put(at + 1, y);
        cells.put(at + 2, most);
        return number;
    }

    public boolean shake(int x, int y) {
        if (!within(x, -SHAKE_FARTHEST, SHAKE_FARTHEST) || !within(y, -SHAKE_FARTHEST, SHAKE_FARTHEST)) {
            return false;
        }
        acts.begins(SHAKE, 2);
        cells.put(SHAKE, x);
        cells.put(SHAKE + 1, y);
        return true;
    }

    public int off() {
        return balance.leastOff();
    }

    public int weights(int hole) {
        return within(hole, 0, cells.get(HOLES) - 1) ? balance.weightsIn(hole) : NONE;
    }

    // ---- DRAG

    public boolean drag(int speed, int loss) {
        if (!isSpeed(speed) || !within(loss, 0, LOSS_MOST)) {
            return false;
        }
        acts.begins(DRAG + speed, 1);
        cells.put(DRAG + speed, loss);
        return true;
    }

    public int alone(int heavy, int from, int to) {
        if (!within(heavy, 1, HEAVIEST_ALONE) || !isSpeed(from) || !isSpeed(to)) {
            return NONE;
        }
        return ticksAlone(heavy, from, to);
    }

    private int ticksAlone(int heavy, int from, int to) {
        int has = heavy * from * from;
        int ticks = 0;
        for (int speed = from; speed > to; speed--) {
            int needs = heavy * speed * speed;
            if (has < needs) {
                continue;
            }
            int loss = cells.get(DRAG + speed);
            if (loss <= 0) {
                return NONE;
            }
            // so many TICKS begin at this speed, as it has enough for it at the beginning of each
            int turns = (has - needs) / loss + 1;
            ticks += turns;
            has = Math.max(0, has - turns * loss);
        }
        return ticks;
    }

    // ---- CRACKS and LOOKS

    public boolean cracks(int grow0, int grow1, int breaks, int seen) {
        if (!within(grow0, 0, EIGHTHS) || !within(grow1, 0, EIGHTHS - grow0)) {
            return false;
        }
        if (!within(breaks, 1, CRACK_MOST) || !within(seen, 1, CRACK_MOST)) {
            return false;
        }
        acts.begins(CRACKS, 4);
        cells.put(CRACKS, grow0);
        cells.put(CRACKS + 1, grow1);
        cells.put(CRACKS + 2, breaks);
        cells.put(CRACKS + 3, seen);
        return true;
    }

    public boolean costs(int look, int ring, int burst) {
        if (!within(look, 0, COST_MOST) || !within(ring, 0, COST_MOST) || !within(burst, 0, COST_MOST)) {
            return false;
        }
        acts.begins(COSTS, 3);
        cells.put(COSTS, look);
        cells.put(COSTS + 1, ring);
        cells.put(COSTS + 2, burst);
        return true;
    }

    public long cost(int rounds, int looks, int part) {
        if (!within(rounds, 1, ROUNDS_MOST) || !within(looks, 0, (1 << rounds) - 1) || !within(part, 0, 1)) {
            return NONE;
        }
        return inLowestTerms(inspection.costOf(rounds, looks), Inspection.partsBehind(rounds), part);
    }

    public int looks(int rounds) {
        return within(rounds, 1, ROUNDS_MOST) ? inspection.bestLooks(rounds) : NONE;
    }

    // ---- FAULTS, SIGNS and READINGS

    public boolean makes(int fault, int signs) {
        if (!within(fault, 0, FAULTS_MOST - 1) || !within(signs, 0, 255)) {
            return false;
        }
        acts.begins(SIGNS + fault, 1);
        cells.put(SIGNS + fault, signs);
        return true;
    }

    public int reads(int sign, boolean seen) {
        int number = cells.get(READINGS);
        if (number >= READINGS_MOST || !within(sign, 0, SIGNS_MOST - 1)) {
            return NONE;
        }
        acts.begins(READINGS, ALL_CELLS - READINGS);
        cells.put(READINGS, number + 1);
        cells.put(READINGS + 1 + number * READING_CELLS, sign);
        cells.put(READINGS + 1 + number * READING_CELLS + 1, seen ? 1 : 0);
        return number;
    }

    public int agree(int f) {
        return isFalseCount(f) ? diagnosis.statesThatAgree(f) : NONE;
    }

    public int told(int f, int what) {
        if (!isFalseCount(f) || !within(what, 0, 1) || diagnosis.statesThatAgree(f) == 0) {
            return NONE;
        }
        return what == 0 ? diagnosis.sureFaults(f) : diagnosis.barredFaults(f);
    }

    public int next(int f) {
        if (!isFalseCount(f) || diagnosis.statesThatAgree(f) == 0) {
            return NONE;
        }
        return diagnosis.signToLookFor(f);
    }

    public int fewest() {
        return diagnosis.leastFalse();
    }

    // ---- ACTS and the DIGEST

    public boolean undo() {
        return acts.takeBack();
    }

    public boolean redo() {
        return acts.tellAgain();
    }

    public int digest() {
        return cells.digestOfAll();
    }

    public int about(int what) {
        switch (what) {
            case 0: return cells.get(RINGS);
            case 1: return cells.get(WHEELS);
            case 2: return cells.get(HOLES);
            case 3: return acts.kept();
            case 4: return acts.takenBack();
            case 5: return tape.size();
            default: return aboutSlot(what);
        }
    }

    private int aboutSlot(int what) {
        if (within(what, 10, 10 + SLOTS_MOST - 1)) {
            return cells.get(SLOTS + (what - 10) * SLOT_CELLS);
        }
        if (within(what, 40, 40 + SLOTS_MOST - 1)) {
            return cells.get(SLOTS + (what - 40) * SLOT_CELLS + 1);
        }
        if (within(what, 70, 70 + SLOTS_MOST - 1)) {
            return cells.get(SLOTS + (what - 70) * SLOT_CELLS + 2) + 9;
        }
        return NONE;
    }

    // ---- what can be, and what several parts use

    private boolean isCharge(int charge) {
        return within(charge, 0, cells.get(STORE));
    }

    private static boolean isSlot(int slot) {
        return within(slot, 0, SLOTS_MOST - 1);
    }

    private static boolean isFit(int fit) {
        return within(fit, -FIT_MOST, FIT_MOST);
    }

    private static boolean isSpeed(int speed) {
        return within(speed, 0, FASTEST);
    }

    private static boolean isFalseCount(int f) {
        return within(f, 0, READINGS_MOST);
    }

    private static boolean within(int number, int least, int most) {
        return number >= least && number <= most;
    }

    /** The charges of three WHEELS as one number, so that they pass as one and find their place in the memo. */
    private static int chargesOf(int a, int b, int c) {
        return (a * Game.SIZES + b) * Game.SIZES + c;
    }

    private static long inLowestTerms(long upper, long lower, int part) {
        long shared = greatestShared(Math.abs(upper), lower);
        if (shared <= 0) {
            return NONE;
        }
        return part == 0 ? upper / shared : lower / shared;
    }

    private static long greatestShared(long one, long other) {
        long a = one;
        long b = other;
        // two longs part in fewer than a hundred turns
        for (int turn = 0; turn < 100 && b != 0; turn++) {
            long rest = a % b;
            a = b;
            b = rest;
        }
        return a;
    }

    /** All that undo() brings back, as one row of numbers. */
    private static final class Cells {
        private final int[] row = new int[ALL_CELLS];
        /** Another one after each change, so that what was found once is used until then. */
        private int version;

        Cells() {
            row[STORE + 1] = 1;
            row[CRACKS] = EIGHTHS;
            row[CRACKS + 2] = CRACK_MOST;
            row[CRACKS + 3] = CRACK_MOST;
        }

        int get(int at) {
            return at >= 0 && at < row.length ? row[at] : 0;
        }

        void put(int at, int number) {
            if (at >= 0 && at < row.length) {
                row[at] = number;
            }
        }

        int version() {
            return version;
        }

        void becomesAnother() {
            version++;
        }

        int digestOfAll() {
            int sum = digestOfCounted(7, RINGS, RING_CELLS);
            sum = digestOf(sum, SLOTS, HOLES);
            sum = digestOfCounted(sum, WHEELS, WHEEL_CELLS);
            sum = digestOfCounted(sum, HOLES, HOLE_CELLS);
            sum = digestOf(sum, SHAKE, WHEELS);
            sum = digestOf(sum, PLAY, MOVES);
            sum = digestOfCounted(sum, MOVES, MOVE_CELLS);
            sum = digestOf(sum, DRAG, READINGS);
            return digestOfCounted(sum, READINGS, READING_CELLS);
        }

        /** On from a sum over a count and as many things as it tells, each of so many cells. */
        private int digestOfCounted(int sum, int from, int each) {
            return digestOf(sum, from, from + 1 + get(from) * each);
        }

        private int digestOf(int sum, int from, int to) {
            int digest = sum;
            for (int at = from; at < to; at++) {
                digest = 31 * digest + get(at);
            }
            return digest;
        }
    }

    /** The row of ACTS: of each the cells that it changed, as they are on the other side of it. */
    private static final class Acts {
        private static final int KEPT_MOST = 300;
        private static final int WIDEST = DRAG - WHEELS;

        private final Cells cells;
        private final int[] start = new int[KEPT_MOST];
        private final int[] length = new int[KEPT_MOST];
        private final int[] otherSide = new int[KEPT_MOST * WIDEST];
        private int first;
        private int kept;
        private int takenBack;

        Acts(Cells cells) {
            this.cells = cells;
        }

        int kept() {
            return kept;
        }

        int takenBack() {
            return takenBack;
        }

        /** An ACT is about to change so many cells from one on. */
        void begins(int from, int many) {
            takenBack = 0;
            if (kept == KEPT_MOST) {
                first = (first + 1) % KEPT_MOST;
                kept--;
            }
            int act = (first + kept) % KEPT_MOST;
            kept++;
            start[act] = from;
            length[act] = Math.min(many, WIDEST);
            for (int i = 0; i < length[act]; i++) {
                otherSide[act * WIDEST + i] = cells.get(from + i);
            }
            cells.becomesAnother();
        }

        boolean takeBack() {
            if (kept == 0) {
                return false;
            }
            kept--;
            takenBack++;
            passOver((first + kept) % KEPT_MOST);
            return true;
        }

        boolean tellAgain() {
            if (takenBack == 0) {
                return false;
            }
            passOver((first + kept) % KEPT_MOST);
            kept++;
            takenBack--;
            return true;
        }

        private void passOver(int act) {
            for (int i = 0; i < length[act]; i++) {
                int here = cells.get(start[act] + i);
                cells.put(start[act] + i, otherSide[act * WIDEST + i]);
                otherSide[act * WIDEST + i] = here;
            }
            cells.becomesAnother();
        }
    }

    /** The bytes that were fed. */
    private static final class Tape {
        private static final int NUMBER_BYTES = 4;

        private final int[] bytes = new int[400];
        private int size;

        int size() {
            return size;
        }

        /** The byte at a place; -1 where there is none. */
        int byteAt(int place) {
            return place >= 0 && place < size ? bytes[place] : -1;
        }

        boolean hasPlaceFor(int more) {
            return size + more <= bytes.length;
        }

        void addNumber(int number) {
            for (int shift = 24; shift >= 0 && size < bytes.length; shift -= 8) {
                bytes[size] = (number >>> shift) & 255;
                size++;
            }
        }

        void cutTo(int n) {
            size = Math.max(0, Math.min(n, size));
        }
    }

    /** Reads the TAPE as a STACK, into a draft that is taken only if all of the text holds. */
    private static final class StackReader {
        private static final int END = 0;
        private static final int WORD = 1;
        private static final int NUMBER = 2;
        private static final int SIGN = 3;
        private static final int NO_TOKEN = 4;

        private static final int FAULT_NO_TOKEN = 1;
        private static final int FAULT_CANT_STAND = 2;
        private static final int FAULT_NUMBER = 4;

        private static final int WORD_LONGEST = 8;
        private static final int DIGITS_MOST = 4;
        private static final int HEAVY_MOST = 20;
        private static final int STIFF_MOST = 12;
        private static final int HOLDS_MOST = 9999;

        private final Tape tape;
        private final int[] draft = new int[RINGS_MOST * RING_CELLS];
        private int rings;
        private int reason;
        private int place = NONE;
        private int kind;
        private int from;
        private int behind;
        private int number;

        StackReader(Tape tape) {
            this.tape = tape;
        }

        int rings() {
            return rings;
        }

        int ringCell(int i) {
            return i >= 0 && i < rings * RING_CELLS ? draft[i] : 0;
        }

        int reason() {
            return reason;
        }

        int place() {
            return place;
        }

        /** True if the text holds; else its first FAULT stands in reason and place. */
        boolean readTape() {
            reason = 0;
            place = NONE;
            rings = 0;
            behind = 0;
            takeToken();
            for (int ring = 0; ring < RINGS_MOST && kind != END; ring++) {
                if (!readRing(ring * RING_CELLS)) {
                    return false;
                }
                rings = ring + 1;
            }
            return kind == END || fails(FAULT_CANT_STAND);
        }

        private boolean readRing(int at) {
            return readWord("ring")
                && readWord("heavy") && readNumber(at, HEAVY_MOST)
                && readWord("stiff") && readStiff(at + 1)
                && readWord("holds") && readNumber(at + 2, HOLDS_MOST)
                && readFit(at + 3)
                && readSign();
        }

        private boolean readFit(int at) {
            draft[at] = 0;
            if (isWord("fit")) {
                takeToken();
                return readNumber(at, FIT_MOST);
            }
            if (isWord("play")) {
                takeToken();
                boolean holds = readNumber(at, FIT_MOST);
                draft[at] = -draft[at];
                return holds;
            }
            return true;
        }

        private boolean readStiff(int at) {
            if (kind == NUMBER && (number <= 0 || STIFF_MOST % number != 0)) {
                return fails(FAULT_NUMBER);
            }
            return readNumber(at, STIFF_MOST);
        }

        private boolean readNumber(int at, int most) {
            if (kind != NUMBER) {
                return fails(FAULT_CANT_STAND);
            }
            if (number > most) {
                return fails(FAULT_NUMBER);
            }
            draft[at] = number;
            takeToken();
            return true;
        }

        private boolean readWord(String word) {
            if (!isWord(word)) {
                return fails(FAULT_CANT_STAND);
            }
            takeToken();
            return true;
        }

        private boolean readSign() {
            if (kind != SIGN) {
                return fails(FAULT_CANT_STAND);
            }
            takeToken();
            return true;
        }

        /** The token at hand is a FAULT: what is no TOKEN is told as that, as the least at its place. */
        private boolean fails(int why) {
            reason = kind == NO_TOKEN ? FAULT_NO_TOKEN : why;
            place = from;
            return false;
        }

        private boolean isWord(String word) {
            if (kind != WORD || behind - from != word.length()) {
                return false;
            }
            for (int i = 0; i < word.length(); i++) {
                if (tape.byteAt(from + i) != word.charAt(i)) {
                    return false;
                }
            }
            return true;
        }

        private void takeToken() {
            from = behind;
            while (from < tape.size() && isBlank(tape.byteAt(from))) {
                from++;
            }
            int first = tape.byteAt(from);
            behind = from + 1;
            if (from >= tape.size()) {
                kind = END;
            } else if (isLetter(first)) {
                takeWord();
            } else if (isDigit(first)) {
                takeNumber();
            } else {
                kind = first == ';' ? SIGN : NO_TOKEN;
            }
        }

        private void takeWord() {
            while (behind < tape.size() && isLetter(tape.byteAt(behind))) {
                behind++;
            }
            kind = behind - from <= WORD_LONGEST ? WORD : NO_TOKEN;
        }

        private void takeNumber() {
            while (behind < tape.size() && isDigit(tape.byteAt(behind))) {
                behind++;
            }
            if (behind - from > DIGITS_MOST || isLetter(tape.byteAt(behind))) {
                kind = NO_TOKEN;
                return;
            }
            kind = NUMBER;
            number = 0;
            for (int i = from; i < behind; i++) {
                number = number * 10 + tape.byteAt(i) - '0';
            }
        }

        private static boolean isBlank(int sign) {
            return sign == ' ' || sign == '\n';
        }

        private static boolean isLetter(int sign) {
            return sign >= 'a' && sign <= 'z';
        }

        private static boolean isDigit(int sign) {
            return sign >= '0' && sign <= '9';
        }
    }

    /**
     * The STACK as it turns. RINGS that touch one another move as one block: the PRESSES inside it cancel,
     * so the STRETCH of its first RING is all its force by all its stiffness, and each STRETCH of the block
     * is a fraction over that stiffness.
     */
    private static final class Rings {
        private static final int CHOICES = 3;

        private final Cells cells;
        private final int[] heavy = new int[RINGS_MOST];
        private final int[] stiff = new int[RINGS_MOST];
        private final int[] holds = new int[RINGS_MOST];
        private final int[] fits = new int[RINGS_MOST];
        private final boolean[] touches = new boolean[RINGS_MOST];
        private final int[] upper = new int[RINGS_MOST];
        private final int[] lower = new int[RINGS_MOST];
        private final int[] pressed = new int[RINGS_MOST];
        private final int[] gaps = new int[RINGS_MOST];
        private final int[] opening = new int[RINGS_MOST];
        private final int[] three = new int[CHOICES];
        private int count;
        private int chosenSpeed;
        private int chosenWay;
        private int openingVersion = NONE;
        private int chosenVersion = NONE;

        Rings(Cells cells) {
            this.cells = cells;
        }

        boolean hasRing(int ring) {
            return within(ring, 0, cells.get(RINGS) - 1);
        }

        boolean hasFit(int fit) {
            return within(fit, 0, cells.get(RINGS) - 2);
        }

        /** All RINGS find their places at a square of speed, with the fits of the STACK. */
        void turnAt(int w) {
            load();
            settle(w);
        }

        long stretchUpper(int ring) {
            return upper[ring];
        }

        long stretchLower(int ring) {
            return lower[ring];
        }

        long pressUpper(int fit) {
            return pressed[fit];
        }

        long pressLower(int fit) {
            return lower[fit];
        }

        long gapUpper(int fit) {
            return gaps[fit];
        }

        long gapLower(int fit) {
            return (long) lower[fit] * lower[fit + 1];
        }

        int leastSquareThatOpens(int fit) {
            if (openingVersion != cells.version()) {
                openingVersion = cells.version();
                findOpenings();
            }
            return opening[fit];
        }

        private void findOpenings() {
            load();
            for (int fit = 0; fit < RINGS_MOST; fit++) {
                opening[fit] = NONE;
            }
            int closed = count - 1;
            for (int w = 0; w <= SQUARE_MOST && closed > 0; w++) {
                settle(w);
                for (int fit = 0; fit + 1 < count; fit++) {
                    if (opening[fit] == NONE && gaps[fit] > 0) {
                        opening[fit] = w;
                        closed--;
                    }
                }
            }
        }

        int greatestSpeed() {
            load();
            return greatestSpeedAsLoaded();
        }

        int speedOfChosen() {
            return chosenSpeed;
        }

        int choiceOf(int fit) {
            return chosenSpeed == NONE ? NONE : choiceIn(chosenWay, fit);
        }

        /** BEST of three fits; the ways are tried in the order in which the first of like ones is due. */
        void chooseFits(int a, int b, int c) {
            boolean same = three[0] == a && three[1] == b && three[2] == c;
            if (same && chosenVersion == cells.version()) {
                return;
            }
            chosenVersion = cells.version();
            three[0] = a;
            three[1] = b;
            three[2] = c;
            load();
            chosenSpeed = NONE;
            tryAllWays();
        }

        private void tryAllWays() {
            int ways = 1;
            for (int fit = 0; fit + 1 < count; fit++) {
                ways *= CHOICES;
            }
            int leastSum = 0;
            for (int way = 0; way < ways; way++) {
                int sum = takeWay(way);
                int speed = greatestSpeedAsLoaded();
                if (speed > chosenSpeed || speed == chosenSpeed && sum < leastSum) {
                    chosenSpeed = speed;
                    chosenWay = way;
                    leastSum = sum;
                }
            }
        }

        /** The fits by a way: the sum of those that say something. */
        private int takeWay(int way) {
            int sum = 0;
            for (int fit = 0; fit + 1 < count; fit++) {
                fits[fit] = three[choiceIn(way, fit)];
                sum += fits[fit];
            }
            return sum;
        }

        /** A way tells one of three of each FIT, as a number of base 3 with FIT 0 ahead. */
        private int choiceIn(int way, int fit) {
            int ahead = way;
            for (int last = count - 2; last > fit; last--) {
                ahead /= CHOICES;
            }
            return ahead % CHOICES;
        }

        private int greatestSpeedAsLoaded() {
            if (count == 0) {
                return NONE;
            }
            for (int speed = 0; speed <= FASTEST; speed++) {
                settleBlock(0, count - 1, speed * speed);
                if (!holdsAsOneBlock()) {
                    return speed - 1;
                }
            }
            return FASTEST;
        }

        /**
         * No GAP is above 0 only where all RINGS are one block. They are one just where each PRESS in it is
         * 0 or more, as that is an answer then, and there is one alone.
         */
        private boolean holdsAsOneBlock() {
            for (int ring = 0; ring < count; ring++) {
                if (upper[ring] > holds[ring] * lower[ring] || pressed[ring] < 0) {
                    return false;
                }
            }
            return true;
        }

        private void load() {
            count = Math.min(cells.get(RINGS), RINGS_MOST);
            for (int ring = 0; ring < count; ring++) {
                int at = RINGS + 1 + ring * RING_CELLS;
                heavy[ring] = cells.get(at);
                stiff[ring] = cells.get(at + 1);
                holds[ring] = cells.get(at + 2);
                fits[ring] = cells.get(at + 3);
            }
        }

        /**
         * From all RINGS apart, those that overlap are made to touch, again and again. One that touches
         * never parts thereby, as more PRESS on it comes of each that is added: so as many turns as
         * there are RINGS are enough.
         */
        private void settle(int w) {
            for (int fit = 0; fit < RINGS_MOST; fit++) {
                touches[fit] = false;
                gaps[fit] = 0;
            }
            boolean overlaps = true;
            for (int turn = 0; turn < RINGS_MOST && overlaps; turn++) {
                settleBlocks(w);
                overlaps = closeOverlaps();
            }
        }

        private void settleBlocks(int w) {
            int from = 0;
            for (int ring = 0; ring < count; ring++) {
                if (ring + 1 == count || !touches[ring]) {
                    settleBlock(from, ring, w);
                    from = ring + 1;
                }
            }
        }

        private void settleBlock(int from, int to, int w) {
            int allStiff = 0;
            int force = 0;
            int shift = 0;
            for (int ring = from; ring <= to; ring++) {
                allStiff += stiff[ring];
                force += heavy[ring] * w - stiff[ring] * shift;
                shift += fits[ring];
            }
            int carried = 0;
            shift = 0;
            for (int ring = from; ring <= to; ring++) {
                upper[ring] = force + allStiff * shift;
                lower[ring] = allStiff;
                carried += allStiff * heavy[ring] * w - stiff[ring] * upper[ring];
                pressed[ring] = ring < to ? carried : 0;
                shift += fits[ring];
            }
        }

        /** True if there were FITS that overlapped; they touch from now on. */
        private boolean closeOverlaps() {
            boolean found = false;
            for (int fit = 0; fit + 1 < count; fit++) {
                gaps[fit] = touches[fit] ? 0 : upper[fit + 1] * lower[fit]
                    - upper[fit] * lower[fit + 1] - fits[fit] * lower[fit] * lower[fit + 1];
                if (gaps[fit] < 0) {
                    touches[fit] = true;
                    found = true;
                }
            }
            return found;
        }
    }

    /** WHEELS against calls that are as bad as can be. A WHEEL that is not there counts as one without room. */
    private static final class Game {
        private static final int SIZES = WHEEL_ROOM_MOST + 1;
        private static final int CHARGES = SIZES * SIZES * SIZES;
        private static final int FULL_SEARCH = -1;
        private static final int FAR_ABOVE = 1000;

        private final Cells cells;
        private final int[] room = new int[WHEELS_MOST];
        private final int[] rate = new int[WHEELS_MOST];
        private final int[] charge = new int[WHEELS_MOST];
        /** Of TICKS, CALLS and charges WORST and 1; 0 where it is not known yet. Made when a game is asked for. */
        private byte[] memo = new byte[0];
        private int memoWheels = NONE;
        private int giveFound;
        private int ticksLeft;
        private int callsLeft;
        private int shortSoFar;

        Game(Cells cells) {
            this.cells = cells;
        }

        boolean canStand(int ticks, int calls, int a, int b, int c) {
            loadWheels();
            return within(ticks, 0, TICKS_MOST) && within(calls, 0, CALLS_MOST)
                && within(a, 0, room[0]) && within(b, 0, room[1]) && within(c, 0, room[2]);
        }

        private void loadWheels() {
            int count = cells.get(WHEELS);
            int key = 0;
            for (int i = 0; i < WHEELS_MOST; i++) {
                int at = WHEELS + 1 + i * WHEEL_CELLS;
                room[i] = i < count ? cells.get(at) : 0;
                rate[i] = i < count ? cells.get(at + 1) : 0;
                key = (key * SIZES + room[i]) * (WHEEL_RATE_MOST + 1) + rate[i];
            }
            if (key != memoWheels) {
                memoWheels = key;
                Arrays.fill(memo, (byte) 0);
            }
        }

        int worstOf(int ticks, int calls, int charges) {
            return worstShort(ticks, calls, charges);
        }

        /** WORST; the TICKS left bound how deep it goes. */
        private int worstShort(int ticks, int calls, int charges) {
            if (ticks <= 0 || ticks > TICKS_MOST || calls <= 0 || calls > CALLS_MOST) {
                return 0;
            }
            if (memo.length == 0) {
                memo = new byte[TICKS_MOST * CALLS_MOST * CHARGES];
            }
            int at = ((ticks - 1) * CALLS_MOST + calls - 1) * CHARGES + charges;
            if (at < 0 || at >= memo.length) {
                return 0;
            }
            if (memo[at] == 0) {
                memo[at] = (byte) (1 + findWorst(ticks, calls, charges));
            }
            return memo[at] - 1;
        }

        private int findWorst(int ticks, int calls, int charges) {
            int worst = 0;
            for (int call = Math.min(CALL_MOST, calls); call >= 0 && worst < calls; call--) {
                worst = Math.max(worst, leastShort(ticks, calls, charges, call, worst));
            }
            return worst;
        }

        int worstCall(int ticks, int calls, int charges) {
            int worst = worstShort(ticks, calls, charges);
            for (int call = 0; call <= Math.min(CALL_MOST, calls); call++) {
                if (leastShort(ticks, calls, charges, call, worst - 1) >= worst) {
                    return call;
                }
            }
            return NONE;
        }

        int bestGive(int ticks, int calls, int charges, int call) {
            leastShort(ticks, calls, charges, call, FULL_SEARCH);
            return giveFound;
        }

        /**
         * The least SHORT upon a call, or any way's that is no more than enough. The ways come from the
         * most given down, as those are good ones: so the last of like ones is the first as the document
         * counts, and with what alone is SHORT already too much, the ways that give less need no look.
         */
        private int leastShort(int ticks, int calls, int charges, int call, int enough) {
            int a = charges / (SIZES * SIZES);
            int b = charges / SIZES % SIZES;
            int c = charges % SIZES;
            int least = FAR_ABOVE;
            int found = 0;
            for (int x = mostGiven(0, a, call); x >= 0 && least > enough; x--) {
                int behindX = chargeBehind(0, a, x) * SIZES;
                for (int y = mostGiven(1, b, call - x); y >= 0 && least > enough; y--) {
                    int behindXY = (behindX + chargeBehind(1, b, y)) * SIZES;
                    for (int z = mostGiven(2, c, call - x - y); z >= 0 && least > enough; z--) {
                        int lacks = call - x - y - z;
                        if (lacks > least) {
                            break;
                        }
                        int all = lacks + worstShort(ticks - 1, calls - call, behindXY + chargeBehind(2, c, z));
                        if (all <= least) {
                            least = all;
                            found = 100 * x + 10 * y + z;
                        }
                    }
                }
            }
            giveFound = found;
            return least;
        }

        private int mostGiven(int wheel, int has, int asked) {
            return Math.min(Math.min(rate[wheel], has), asked);
        }

        private int chargeBehind(int wheel, int has, int given) {
            return given == 0 ? Math.min(has + 1, room[wheel]) : has - given;
        }

        /** The PLAY as it stands behind so many of its MOVES. */
        private void standBehind(int moves) {
            loadWheels();
            ticksLeft = cells.get(PLAY);
            callsLeft = cells.get(PLAY + 1);
            shortSoFar = 0;
            for (int i = 0; i < WHEELS_MOST; i++) {
                charge[i] = cells.get(PLAY + 2 + i);
            }
            for (int n = 0; n < moves; n++) {
                go(callOf(n), giveOf(n));
            }
        }

        private void go(int call, int give) {
            for (int i = 0; i < WHEELS_MOST; i++) {
                charge[i] = chargeBehind(i, charge[i], givenBy(i, give));
            }
            shortSoFar += call - allGiven(give);
            ticksLeft--;
            callsLeft -= call;
        }

        private int callOf(int n) {
            return cells.get(MOVES + 1 + n * MOVE_CELLS);
        }

        private int giveOf(int n) {
            return cells.get(MOVES + 1 + n * MOVE_CELLS + 1);
        }

        private static int givenBy(int wheel, int give) {
            if (wheel == 0) {
                return give / 100;
            }
            return wheel == 1 ? give / 10 % 10 : give % 10;
        }

        private static int allGiven(int give) {
            return givenBy(0, give) + givenBy(1, give) + givenBy(2, give);
        }

        boolean canMove(int call, int give) {
            standBehind(cells.get(MOVES));
            if (ticksLeft <= 0 || !within(call, 0, Math.min(CALL_MOST, callsLeft)) || !within(give, 0, 999)) {
                return false;
            }
            for (int i = 0; i < WHEELS_MOST; i++) {
                if (givenBy(i, give) > Math.min(rate[i], charge[i])) {
                    return false;
                }
            }
            return allGiven(give) <= call;
        }

        int ofPlay(int what) {
            standBehind(cells.get(MOVES));
            switch (what) {
                case 0: return cells.get(MOVES);
                case 1: return shortSoFar;
                case 2: return ticksLeft;
                case 3: return callsLeft;
                default: return within(what, 4, 6) ? charge[what - 4] : NONE;
            }
        }

        int blameOfCall(int n) {
            standBehind(n);
            int charges = chargesOf(charge[0], charge[1], charge[2]);
            int ahead = worstShort(ticksLeft, callsLeft, charges);
            return ahead - leastShort(ticksLeft, callsLeft, charges, callOf(n), FULL_SEARCH);
        }

        int blameOfGive(int n) {
            standBehind(n);
            int least = leastShort(ticksLeft, callsLeft, chargesOf(charge[0], charge[1], charge[2]),
                callOf(n), FULL_SEARCH);
            int shortAhead = shortSoFar;
            go(callOf(n), giveOf(n));
            int behind = worstShort(ticksLeft, callsLeft, chargesOf(charge[0], charge[1], charge[2]));
            return shortSoFar - shortAhead + behind - least;
        }
    }

    /** THE STORE, its SLOTS and the PLAN. */
    private static final class Market {
        private static final int BEYOND_RATE = 1;
        private static final int BELOW_NONE = 2;
        private static final int ABOVE_ROOM = 3;

        private final Cells cells;
        private final int[][] values = new int[SLOTS_MOST + 1][ROOM_MOST + 1];
        private final int[] left = new int[ROOM_MOST + 1];
        private int version = NONE;
        private int tradeFound;
        private int failingSlot;
        private int failingReason;
        private int income;

        Market(Cells cells) {
            this.cells = cells;
        }

        int valueOf(int slot, int charge) {
            findValues();
            return values[slot][charge];
        }

        int bestTrade(int slot, int charge, int way) {
            findValues();
            mostThatComes(slot, charge, way);
            return tradeFound;
        }

        private void findValues() {
            if (version == cells.version()) {
                return;
            }
            version = cells.version();
            int room = Math.min(cells.get(STORE), ROOM_MOST);
            for (int charge = 0; charge <= room; charge++) {
                left[charge] = leftOf(charge);
            }
            for (int slot = SLOTS_MOST - 1; slot >= 0; slot--) {
                for (int charge = 0; charge <= room; charge++) {
                    values[slot][charge] = surelyComes(slot, charge);
                }
            }
        }

        private int surelyComes(int slot, int charge) {
            int ifLess = mostThatComes(slot, charge, 0);
            return cells.get(MISSES) == 0 ? ifLess : Math.min(ifLess, mostThatComes(slot, charge, 2));
        }

        /** From a SLOT on, with its prices turned a way; by which q stands in tradeFound. */
        private int mostThatComes(int slot, int charge, int way) {
            int buy = turned(cells.get(SLOTS + slot * SLOT_CELLS), way);
            int sell = turned(cells.get(SLOTS + slot * SLOT_CELLS + 1), way);
            int room = Math.min(cells.get(STORE), ROOM_MOST);
            int rate = cells.get(STORE + 1);
            int most = values[slot + 1][left[charge]];
            tradeFound = 0;
            for (int q = 1; q <= rate; q++) {
                if (charge - q >= 0) {
                    int comes = q * sell + values[slot + 1][left[charge - q]];
                    if (comes > most) {
                        most = comes;
                        tradeFound = -q;
                    }
                }
                if (charge + q <= room) {
                    int comes = values[slot + 1][left[charge + q]] - q * buy;
                    if (comes > most) {
                        most = comes;
                        tradeFound = q;
                    }
                }
            }
            return most;
        }

        private int turned(int price, int way) {
            int by = cells.get(MISSES);
            if (way == 0) {
                return Math.max(0, price - by);
            }
            return way == 2 ? price + by : price;
        }

        private int leftOf(int charge) {
            return charge - charge * cells.get(STORE + 2) / 100;
        }

        void walkPlan(int begunWith) {
            failingSlot = NONE;
            failingReason = 0;
            income = 0;
            int charge = begunWith;
            for (int slot = 0; slot < SLOTS_MOST; slot++) {
                int at = SLOTS + slot * SLOT_CELLS;
                int q = cells.get(at + 2);
                int reason = whyNot(charge, q);
                if (reason != 0) {
                    failingSlot = slot;
                    failingReason = reason;
                    income = NO_INCOME;
                    return;
                }
                income -= q * (q > 0 ? cells.get(at) : cells.get(at + 1));
                charge = leftOf(charge + q);
            }
        }

        private int whyNot(int charge, int q) {
            if (Math.abs(q) > cells.get(STORE + 1)) {
                return BEYOND_RATE;
            }
            if (charge + q < 0) {
                return BELOW_NONE;
            }
            return charge + q > cells.get(STORE) ? ABOVE_ROOM : 0;
        }

        int slotThatFails() {
            return failingSlot;
        }

        int reasonOfFailing() {
            return failingReason;
        }

        int incomeOfPlan() {
            return income;
        }
    }

    /** WEIGHTS in HOLES against SHAKE. */
    private static final class Balance {
        private static final int FAR_ABOVE = 1 << 30;

        private final Cells cells;
        private final int[] trial = new int[HOLES_MOST];
        private final int[] still = new int[HOLES_MOST];
        private int version = NONE;
        private int count;
        private int x;
        private int y;
        private int weights;
        private int least;
        private int fewestWeights;

        Balance(Cells cells) {
            this.cells = cells;
        }

        int leastOff() {
            findStill();
            return least;
        }

        int weightsIn(int hole) {
            findStill();
            return still[hole];
        }

        private void findStill() {
            if (version == cells.version()) {
                return;
            }
            version = cells.version();
            count = Math.min(cells.get(HOLES), HOLES_MOST);
            x = cells.get(SHAKE);
            y = cells.get(SHAKE + 1);
            weights = 0;
            least = FAR_ABOVE;
            fewestWeights = 0;
            int ways = 1;
            for (int hole = 0; hole < count; hole++) {
                trial[hole] = 0;
                ways *= cells.get(HOLES + 1 + hole * HOLE_CELLS + 2) + 1;
            }
            for (int way = 0; way < ways; way++) {
                weigh();
                takeNextWay();
            }
        }

        /** As a number is counted on, with the last HOLE behind: so the first of like ways comes first. */
        private void takeNextWay() {
            for (int hole = count - 1; hole >= 0; hole--) {
                int most = cells.get(HOLES + 1 + hole * HOLE_CELLS + 2);
                if (trial[hole] < most) {
                    putMore(hole, 1);
                    return;
                }
                putMore(hole, -most);
            }
        }

        private void putMore(int hole, int more) {
            int at = HOLES + 1 + hole * HOLE_CELLS;
            trial[hole] += more;
            x += more * cells.get(at);
            y += more * cells.get(at + 1);
            weights += more;
        }

        private void weigh() {
            int off = x * x + y * y;
            if (off > least || off == least && weights >= fewestWeights) {
                return;
            }
            least = off;
            fewestWeights = weights;
            for (int hole = 0; hole < count; hole++) {
                still[hole] = trial[hole];
            }
        }
    }

    /** A RING that cracks. Chances behind r ROUNDS are whole numbers of the 8 to the r-th parts of all. */
    private static final class Inspection {
        private final Cells cells;
        private final long[][] chances = new long[ROUNDS_MOST + 1][CRACK_MOST];
        /** COST behind so many ROUNDS, in the parts that chances are told in. */
        private final long[] costs = new long[ROUNDS_MOST + 1];
        private int version = NONE;
        private int roundsFound;
        private int looksFound;
        private long costFound;

        Inspection(Cells cells) {
            this.cells = cells;
            chances[0][0] = 1;
        }

        static long partsBehind(int rounds) {
            return 1L << (3 * rounds);
        }

        /** COST in the parts behind the last of the ROUNDS. */
        long costOf(int rounds, int looks) {
            long cost = 0;
            for (int round = 0; round < rounds; round++) {
                cost = cost * EIGHTHS + costIn(round, looks);
            }
            return cost;
        }

        int bestLooks(int rounds) {
            if (version != cells.version() || roundsFound != rounds) {
                version = cells.version();
                roundsFound = rounds;
                looksFound = NONE;
                tryAllLooks(rounds);
            }
            return looksFound;
        }

        /**
         * The ways have ROUND 0 as their highest bit: so a way is as the one ahead of it in all but the
         * last ROUNDS, and what is known behind the others still holds.
         */
        private void tryAllLooks(int rounds) {
            int changed = 0;
            for (int way = 0; way < 1 << rounds; way++) {
                int looks = mirrored(way, rounds);
                for (int round = changed; round < rounds; round++) {
                    costs[round + 1] = costs[round] * EIGHTHS + costIn(round, looks);
                }
                weigh(looks, costs[rounds]);
                changed = rounds - Integer.bitCount(way ^ way + 1);
            }
        }

        private static int mirrored(int bits, int many) {
            int other = 0;
            for (int i = 0; i < many; i++) {
                other |= (bits >> i & 1) << (many - 1 - i);
            }
            return other;
        }

        private void weigh(int looks, long cost) {
            if (looksFound == NONE || cost < costFound || cost == costFound && comesFirst(looks)) {
                looksFound = looks;
                costFound = cost;
            }
        }

        private boolean comesFirst(int looks) {
            int more = Integer.bitCount(looks) - Integer.bitCount(looksFound);
            return more < 0 || more == 0 && looks < looksFound;
        }

        private long costIn(int round, int looks) {
            long cost = grow(round);
            return (looks >> round & 1) == 1 ? cost + look(round) : cost;
        }

        /** The crack grows in a ROUND, and bursts where it is enough: what that costs. */
        private long grow(int round) {
            long[] ahead = chances[round];
            long[] behind = chances[round + 1];
            int grow0 = cells.get(CRACKS);
            int grow1 = cells.get(CRACKS + 1);
            int grow2 = EIGHTHS - grow0 - grow1;
            int breaks = Math.min(cells.get(CRACKS + 2), CRACK_MOST);
            Arrays.fill(behind, 0);
            long burst = 0;
            for (int crack = 0; crack < breaks; crack++) {
                behind[crack] += ahead[crack] * grow0;
                if (crack + 1 < breaks) {
                    behind[crack + 1] += ahead[crack] * grow1;
                } else {
                    burst += ahead[crack] * grow1;
                }
                if (crack + 2 < breaks) {
                    behind[crack + 2] += ahead[crack] * grow2;
                } else {
                    burst += ahead[crack] * grow2;
                }
            }
            behind[0] += burst;
            return burst * cells.get(COSTS + 2);
        }

        /** One LOOKS at the end of a ROUND, and what is found is made new: what that costs. */
        private long look(int round) {
            long[] behind = chances[round + 1];
            long found = 0;
            for (int crack = Math.max(1, cells.get(CRACKS + 3)); crack < CRACK_MOST; crack++) {
                found += behind[crack];
                behind[crack] = 0;
            }
            behind[0] += found;
            return partsBehind(round + 1) * cells.get(COSTS) + found * cells.get(COSTS + 1);
        }
    }

    /** Which sets of FAULTS the READINGS leave. */
    private static final class Diagnosis {
        private final Cells cells;

        Diagnosis(Cells cells) {
            this.cells = cells;
        }

        int statesThatAgree(int f) {
            int count = 0;
            for (int state = 0; state < STATES; state++) {
                if (agrees(state, f)) {
                    count++;
                }
            }
            return count;
        }

        int sureFaults(int f) {
            int sure = STATES - 1;
            for (int state = 0; state < STATES; state++) {
                if (agrees(state, f)) {
                    sure &= state;
                }
            }
            return sure;
        }

        int barredFaults(int f) {
            int barred = STATES - 1;
            for (int state = 0; state < STATES; state++) {
                if (agrees(state, f)) {
                    barred &= ~state;
                }
            }
            return barred;
        }

        int signToLookFor(int f) {
            int all = statesThatAgree(f);
            int best = NONE;
            int least = STATES + 1;
            for (int sign = 0; sign < SIGNS_MOST; sign++) {
                int having = statesThatHave(sign, f);
                int greater = Math.max(having, all - having);
                if (greater < least) {
                    least = greater;
                    best = sign;
                }
            }
            return best;
        }

        int leastFalse() {
            int least = READINGS_MOST;
            for (int state = 0; state < STATES; state++) {
                least = Math.min(least, falseReadings(state));
            }
            return least;
        }

        private int statesThatHave(int sign, int f) {
            int count = 0;
            for (int state = 0; state < STATES; state++) {
                if ((signsOf(state) >> sign & 1) == 1 && agrees(state, f)) {
                    count++;
                }
            }
            return count;
        }

        private boolean agrees(int state, int f) {
            return falseReadings(state) <= f;
        }

        /** How many READINGS tell of their SIGN otherwise than a STATE. */
        private int falseReadings(int state) {
            int signs = signsOf(state);
            int count = 0;
            int readings = cells.get(READINGS);
            for (int n = 0; n < readings; n++) {
                int at = READINGS + 1 + n * READING_CELLS;
                if ((signs >> cells.get(at) & 1) != cells.get(at + 1)) {
                    count++;
                }
            }
            return count;
        }

        private int signsOf(int state) {
            int signs = 0;
            for (int fault = 0; fault < FAULTS_MOST; fault++) {
                if ((state >> fault & 1) == 1) {
                    signs |= cells.get(SIGNS + fault);
                }
            }
            return signs;
        }
    }
}
