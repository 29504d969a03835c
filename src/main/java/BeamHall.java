/**
 * A beam hall, as ../shared/DOC.md tells it: shifts of a ring and their modes, benches, asks,
 * rules in texts, panels, plans, trips, rings of groups that change shifts, and who had what.
 *
 * The public methods look at what they are given, in the document's order of refusals; the
 * classes inside do the work and take it that numbers were looked at.
 */
public final class BeamHall {
    private static final int NOBODY = -1;
    private static final int OTHER = -2;
    private static final int STATE = -3;
    private static final int BELOW = -4;
    private static final int MISSING = -5;
    private static final int ROOM = -6;
    private static final int NONE = -9;
    private static final int FAULT = -20;
    private static final int STARRED = 1000000000;

    private static final int SHIFTS = 200;
    private static final int SHIFT_HOURS = 8;
    private static final int ALL_HOURS = 255;
    private static final int LAST_HOUR = 1600;
    private static final int TRIPS = 20;
    private static final int TRIP_HOURS = 60;
    private static final int WORKS = 4;

    private static final int BENCHES = 6;
    private static final int HOST_SETS = 255;
    private static final int BENCH_SETS = 63;
    private static final int MODE_SETS = 15;
    private static final int GEARS = 6;
    private static final int LAST_CAN = 7;
    private static final int MOST_REST = 3;

    private static final int ASKS = 30;
    private static final int GROUPS = 10;
    private static final int LANDS = 5;
    private static final int MOST_LONG = 4;
    private static final int MOST_DANGER = 9;
    private static final int MOST_BETWEEN = 30;

    private static final int TIED = 1;
    private static final int LIVING = 2;
    private static final int URGENT = 3;
    private static final int PAID = 4;
    private static final int OWED = 5;

    private static final int READERS = 6;
    private static final int MARKS_OF_ONE = 3;
    private static final int MOST_MARK = 100;
    private static final int MOST_SHARE = 100;

    private static final int TEXTS = 20;
    private static final int TAPE = 50;
    private static final int DEEPEST = 4;
    private static final int FACTS = 9;

    // A TEXT's code: below FACT a number to push, from FACT on a fact to push, then the signs.
    private static final int FACT = 1000;
    private static final int PLUS = 2000;
    private static final int MINUS = 2001;
    private static final int TIMES = 2002;
    private static final int LESS = 2003;
    private static final int SAME = 2004;
    private static final int MORE = 2005;
    private static final int AND = 2006;
    private static final int OR = 2007;
    private static final int UNLESS = 2008;
    private static final int NOT = 2009;

    private static final int BAR_BENCHES = 1;
    private static final int BAR_CAN = 2;
    private static final int BAR_BEGUN = 3;
    private static final int BAR_WORKS = 4;
    private static final int BAR_MODE = 5;
    private static final int BAR_HAD = 6;
    private static final int BAR_GEAR = 7;
    private static final int BAR_TEXT = 8;
    private static final int BAR_HOSTS = 9;
    private static final int BAR_TIED = 10;
    private static final int BAR_LIVING = 11;
    private static final int BAR_SHARE = 12;

    private static final int BEST_SHIFTS = 8;
    private static final int BEST_ASKS = 4;
    private static final int BEST_SPOTS = BEST_SHIFTS * BENCHES;
    private static final int RING_MOST = 5;
    private static final int ROW = 21;
    private static final int REFUSALS = 6;

    // What is past is kept in rows of five: ASK, first SHIFT, last SHIFT, HOUR given, HOUR taken back.
    private static final int PAST_WIDTH = 5;
    private static final int PAST_FIRST = 16;
    // Far above what 512 calls can bring: 30 places an hour that differs, two calls an hour.
    private static final int PAST_MOST = 16384;

    private final Beam beam;
    private final Rules rules;
    private final Tape tape;
    private final Panel panel;
    private final Hall hall;
    private final Planner planner;
    private final Best best;
    private final Circle circle;
    private final int[] refused;
    private final int[] row;
    private int rowSize;
    private Ask draft;

    public BeamHall() {
        beam = new Beam();
        rules = new Rules();
        tape = new Tape();
        hall = new Hall(beam, rules);
        panel = new Panel(hall);
        planner = new Planner(hall, beam);
        best = new Best(hall);
        circle = new Circle(hall);
        refused = new int[REFUSALS + 1];
        row = new int[ROW];
    }

    public int hours(int n) {
        if (n < 0) {
            return refuse(BELOW);
        }
        if (n > LAST_HOUR - beam.now) {
            return refuse(ROOM);
        }
        beam.now += n;
        return beam.now;
    }

    public int mode(int a, int b, int mode) {
        if (!areShifts(a, b)) {
            return refuse(NOBODY);
        }
        if (mode < 0 || mode > WORKS) {
            return refuse(OTHER);
        }
        return beam.change(a, b, mode);
    }

    public int trip(int hour, int n) {
        if (hour < 0 || n < 1) {
            return refuse(BELOW);
        }
        if (hour > beam.now || n > TRIP_HOURS || beam.trips >= TRIPS) {
            return refuse(ROOM);
        }
        return beam.found(hour, n);
    }

    public int shiftOf(int shift, int what, int k) {
        if (!isShift(shift)) {
            return refuse(NOBODY);
        }
        if (what < 0 || what > 1) {
            return refuse(OTHER);
        }
        if (k < 0) {
            return refuse(BELOW);
        }
        if (k > beam.now) {
            return refuse(ROOM);
        }
        return what == 0 ? beam.modes[shift] : beam.lostAsKnown(shift, k);
    }

    public int bench(int can, int hosts) {
        if (can < 0 || hosts < 0) {
            return refuse(BELOW);
        }
        if (can > HOST_SETS || hosts > HOST_SETS || hall.benchCount >= BENCHES) {
            return refuse(ROOM);
        }
        return hall.addBench(can, hosts);
    }

    public int set(int what, int v) {
        if (what < 0 || what > 2) {
            return refuse(OTHER);
        }
        if (v < 0) {
            return refuse(BELOW);
        }
        int most = what == 0 ? MOST_REST : what == 1 ? MOST_SHARE : 1;
        if (v > most) {
            return refuse(ROOM);
        }
        if (what == 0) {
            return hall.changeRest(v);
        }
        return what == 1 ? planner.changeShare(v) : panel.changeScaled(v);
    }

    public int draft(int group, int land, int length, int wants) {
        if (group < 0 || group >= GROUPS || land < 0 || land >= LANDS) {
            return refuse(NOBODY);
        }
        if (length < 1 || wants < 0) {
            return refuse(BELOW);
        }
        if (length > MOST_LONG || wants > LAST_CAN) {
            return refuse(ROOM);
        }
        draft = new Ask(group, land, length, wants);
        return 1;
    }

    public int ask(int kind, int benches, int modes, int gear, int danger, int x, int y) {
        if (draft == null) {
            return refuse(MISSING);
        }
        if (kind < 0 || kind > PAID) {
            return refuse(OTHER);
        }
        if (benches < 0 || modes < 0 || danger < 0 || daysBelow(kind, x, y)) {
            return refuse(BELOW);
        }
        if (benches > BENCH_SETS || modes > MODE_SETS || danger > MOST_DANGER
                || daysAbove(kind, x, y) || hall.askCount >= ASKS) {
            return refuse(ROOM);
        }
        if (gear < -1 || gear >= GEARS) {
            return refuse(NOBODY);
        }
        if (kind == TIED && hall.askAt(x) == null) {
            return refuse(NOBODY);
        }
        Ask told = draft;
        told.want(benches, modes, gear, danger);
        told.bind(kind, x, y);
        draft = null;
        return hall.addAsk(told);
    }

    public int withdraw(int ask) {
        Ask one = hall.askAt(ask);
        if (one == null) {
            return refuse(NOBODY);
        }
        if (one.withdrawn) {
            return refuse(STATE);
        }
        one.withdrawn = true;
        hall.clear(one);
        return 1;
    }

    public int askOf(int ask, int what) {
        Ask one = hall.askAt(ask);
        if (one == null) {
            return refuse(NOBODY);
        }
        switch (what) {
            case 0: return one.kind;
            case 1: return one.group;
            case 2: return one.land;
            case 3: return one.length;
            case 4: return one.danger;
            case 5: return one.bench;
            case 6: return one.shift;
            case 7: return one.withdrawn ? 1 : 0;
            case 8: return hall.loss(one);
            case 9: return hall.owed(one);
            default: return refuse(OTHER);
        }
    }

    public int feed(int n, long bytes) {
        if (n < 1) {
            return refuse(BELOW);
        }
        if (n > 8 || n > TAPE - tape.size) {
            return refuse(ROOM);
        }
        return tape.append(n, bytes);
    }

    public int text(int from) {
        if (!isShift(from)) {
            return refuse(NOBODY);
        }
        if (rules.count >= TEXTS) {
            return refuse(ROOM);
        }
        boolean stands = tape.read();
        int answer = stands ? rules.add(tape.letter(), from, tape.written()) : FAULT - tape.at;
        tape.size = 0;
        return answer;
    }

    public int strike(int text, int from) {
        Text one = rules.textAt(text);
        if (one == null || !isShift(from)) {
            return refuse(NOBODY);
        }
        if (one.isStruck) {
            return refuse(STATE);
        }
        one.isStruck = true;
        one.till = from;
        return 1;
    }

    public int barred(int ask, int bench, int shift, int what) {
        Ask one = hall.askAt(ask);
        if (one == null || hall.benchAt(bench) == null || !isShift(shift)) {
            return refuse(NOBODY);
        }
        switch (what) {
            case 0: return rules.leastThatHolds('B', one, bench, shift) != NONE ? 1 : 0;
            case 1: return rules.leastThatHolds('W', one, bench, shift) != NONE ? 1 : 0;
            case 2: return rules.leastThatHolds('B', one, bench, shift);
            case 3: return rules.quarrel(one, bench, shift, false);
            case 4: return rules.quarrel(one, bench, shift, true);
            default: return refuse(OTHER);
        }
    }

    public int kin(int reader, int group) {
        if (!isReader(reader) || group < 0 || group >= GROUPS) {
            return refuse(NOBODY);
        }
        return panel.tellKin(reader, group) ? 1 : 0;
    }

    public int mark(int reader, int ask, int v) {
        Ask one = hall.askAt(ask);
        if (!isReader(reader) || one == null) {
            return refuse(NOBODY);
        }
        if (panel.isTold(reader, ask) || panel.toldOf(ask) >= MARKS_OF_ONE) {
            return refuse(STATE);
        }
        if (v < 0) {
            return refuse(BELOW);
        }
        if (v > MOST_MARK) {
            return refuse(ROOM);
        }
        return panel.tell(reader, one, v) ? 1 : 0;
    }

    public int markOf(int ask) {
        Ask one = hall.askAt(ask);
        return one == null ? refuse(NOBODY) : one.mark;
    }

    public int habit(int reader, int what) {
        if (!isReader(reader)) {
            return STARRED - refuse(NOBODY);
        }
        if (what < 0 || what > 1) {
            return STARRED - refuse(OTHER);
        }
        return what == 0 ? panel.habitOf(reader) : panel.doubtOf(reader);
    }

    public int fit(int ask, int bench, int shift) {
        Ask one = hall.askAt(ask);
        if (one == null || hall.benchAt(bench) == null || !isShift(shift)) {
            return refuse(NOBODY);
        }
        return hall.firstBar(one, bench, shift);
    }

    public int give(int ask, int bench, int shift) {
        Ask one = hall.askAt(ask);
        if (one == null || hall.benchAt(bench) == null || !isShift(shift)) {
            return refuse(NOBODY);
        }
        if (one.withdrawn || one.isPlaced() || hall.firstBar(one, bench, shift) != 0) {
            return refuse(STATE);
        }
        hall.place(one, bench, shift);
        return 1;
    }

    public int take(int ask) {
        Ask one = hall.askAt(ask);
        if (one == null) {
            return refuse(NOBODY);
        }
        if (!hall.mayMove(one)) {
            return refuse(STATE);
        }
        hall.clear(one);
        return 1;
    }

    public int plan(int a, int b) {
        if (!areShifts(a, b)) {
            return refuse(NOBODY);
        }
        return planner.planAll(a, b);
    }

    public int passed(int what) {
        if (what < -1) {
            return refuse(OTHER);
        }
        return what == -1 ? planner.passedCount : planner.passedAt(what);
    }

    public int why(int ask, int bench, int shift, int a, int b) {
        Ask one = hall.askAt(ask);
        if (one == null || hall.benchAt(bench) == null || !areShifts(a, b) || shift < a || shift > b) {
            return refuse(NOBODY);
        }
        int bar = hall.firstBar(one, bench, shift);
        return bar == 0 && !planner.isInShare(one, a, b) ? BAR_SHARE : bar;
    }

    public int best(int a, int b, int set, int what) {
        if (!areShifts(a, b) || !hall.areAsks(set) || what >= 0 && !isIn(set, what)) {
            return refuse(NOBODY);
        }
        if (what < -1) {
            return refuse(OTHER);
        }
        if (b - a >= BEST_SHIFTS || Integer.bitCount(set) > BEST_ASKS) {
            return refuse(ROOM);
        }
        if (!hall.areAllFree(set)) {
            return refuse(STATE);
        }
        best.search(a, b, set);
        return what == -1 ? best.sum : best.spotOf(what);
    }

    public int hosts(int bench, int shift) {
        Bench one = hall.benchAt(bench);
        if (one == null || !isShift(shift)) {
            return refuse(NOBODY);
        }
        return one.stands[shift];
    }

    public int owe(int ask) {
        Ask one = hall.askAt(ask);
        if (one == null) {
            return refuse(NOBODY);
        }
        if (one.isRepaid || hall.loss(one) == 0 || hall.owed(one) == 0) {
            return refuse(STATE);
        }
        if (hall.askCount >= ASKS) {
            return refuse(ROOM);
        }
        one.isRepaid = true;
        return hall.addAsk(one.owedOne(hall.owed(one)));
    }

    public int again() {
        return planner.planAgain();
    }

    public int danger(int ask, int v) {
        Ask one = hall.askAt(ask);
        if (one == null) {
            return refuse(NOBODY);
        }
        if (v < 0) {
            return refuse(BELOW);
        }
        if (v > MOST_DANGER) {
            return refuse(ROOM);
        }
        one.danger = v;
        return hall.clearUnfit(one) ? 1 : 0;
    }

    public int wish(int ask, int other, boolean on) {
        if (hall.askAt(ask) == null || hall.askAt(other) == null || ask == other) {
            return refuse(NOBODY);
        }
        return circle.tell(ask, other, on) ? 1 : 0;
    }

    public int ring(int what) {
        if (what < -1) {
            return refuse(OTHER);
        }
        int size = circle.find();
        return what == -1 ? size : circle.memberAt(what);
    }

    public int swap() {
        if (circle.find() == 0) {
            return refuse(STATE);
        }
        return circle.turn();
    }

    public int had(int bench, int shift, int k) {
        Bench one = hall.benchAt(bench);
        if (one == null || !isShift(shift)) {
            return refuse(NOBODY);
        }
        if (k < 0) {
            return refuse(BELOW);
        }
        if (k > beam.now) {
            return refuse(ROOM);
        }
        return one.knownOn(shift, k);
    }

    public int lead(int bench, int shift) {
        Bench one = hall.benchAt(bench);
        if (one == null || !isShift(shift)) {
            return refuse(NOBODY);
        }
        return one.changed[shift];
    }

    public int put(int v) {
        if (rowSize >= ROW) {
            return refuse(ROOM);
        }
        row[rowSize] = v;
        rowSize++;
        return rowSize;
    }

    public int check(int bench, int a, int k) {
        Bench one = hall.benchAt(bench);
        if (one == null || !isShift(a) || a + rowSize > SHIFTS) {
            return refuse(NOBODY);
        }
        if (k < 0) {
            return refuse(BELOW);
        }
        if (k > beam.now) {
            return refuse(ROOM);
        }
        int wrong = firstWrong(one, a, k);
        rowSize = 0;
        return wrong;
    }

    public int count(int what) {
        switch (what) {
            case 0: return beam.now;
            case 1: return hall.benchCount;
            case 2: return hall.askCount;
            case 3: return hall.placedAsks();
            case 4: return rules.count;
            case 5: return beam.trips;
            case 6: return hall.placedShifts();
            case 7: return tape.size;
            case 8: return rowSize;
            default: return what > 10 && what <= 10 + REFUSALS ? refused[what - 10] : NONE;
        }
    }

    private int refuse(int refusal) {
        if (refusal < 0 && refusal >= -REFUSALS) {
            refused[-refusal]++;
        }
        return refusal;
    }

    private int firstWrong(Bench bench, int a, int k) {
        for (int i = 0; i < rowSize; i++) {
            if (bench.knownOn(a + i, k) != row[i]) {
                return i;
            }
        }
        return NONE;
    }

    private static boolean isShift(int shift) {
        return shift >= 0 && shift < SHIFTS;
    }

    private static boolean areShifts(int a, int b) {
        return isShift(a) && isShift(b) && a <= b;
    }

    private static boolean isReader(int reader) {
        return reader >= 0 && reader < READERS;
    }

    private static boolean isIn(int set, int number) {
        return number >= 0 && number < ASKS && (set >> number & 1) != 0;
    }

    private static boolean daysBelow(int kind, int x, int y) {
        if (kind == TIED) {
            return y < 0;
        }
        return kind == LIVING && (x < 0 || y < x);
    }

    private static boolean daysAbove(int kind, int x, int y) {
        if (kind == TIED) {
            return y > MOST_BETWEEN;
        }
        return kind == LIVING && (x >= SHIFTS || y >= SHIFTS);
    }

    /** THE RING: NOW, what runs in each SHIFT, and what TRIPS took of it. */
    private static final class Beam {
        final int[] modes;
        // A set of the HOURS of each SHIFT that are lost, as known NOW: all TRIPS are found by then.
        final int[] lost;
        final int[] tripFrom;
        final int[] tripTill;
        final int[] tripFound;
        int trips;
        int now;

        Beam() {
            modes = new int[SHIFTS];
            lost = new int[SHIFTS];
            tripFrom = new int[TRIPS];
            tripTill = new int[TRIPS];
            tripFound = new int[TRIPS];
        }

        boolean hasBegun(int shift) {
            return now > shift * SHIFT_HOURS;
        }

        int change(int a, int b, int mode) {
            int others = 0;
            for (int s = a; s <= b; s++) {
                if (modes[s] != mode) {
                    modes[s] = mode;
                    others++;
                }
            }
            return others;
        }

        int found(int hour, int n) {
            if (trips < TRIPS) {
                tripFrom[trips] = hour;
                tripTill[trips] = hour + n - 1;
                tripFound[trips] = now;
                trips++;
            }
            for (int h = hour; h < hour + n && h < LAST_HOUR; h++) {
                lost[h / SHIFT_HOURS] |= 1 << h % SHIFT_HOURS;
            }
            return trips;
        }

        int lostAsKnown(int shift, int k) {
            int sum = 0;
            for (int i = 0; i < SHIFT_HOURS; i++) {
                if (isLost(shift * SHIFT_HOURS + i, k)) {
                    sum++;
                }
            }
            return sum;
        }

        boolean isLost(int hour, int k) {
            for (int i = 0; i < trips; i++) {
                if (tripFound[i] <= k && hour >= tripFrom[i] && hour <= tripTill[i]) {
                    return true;
                }
            }
            return false;
        }

        int lostFrom(int first, int length) {
            int sum = 0;
            for (int s = first; s < first + length && s < SHIFTS; s++) {
                sum += Integer.bitCount(lost[s]);
            }
            return sum;
        }
    }

    /** An ASK, and the PLACE that it has. */
    private static final class Ask {
        final int group;
        final int land;
        final int length;
        final int wants;
        int number;
        int kind;
        int benches;
        int modes;
        int gear;
        int danger;
        int x;
        int y;
        int mark;
        int bench;
        int shift;
        boolean withdrawn;
        boolean isRepaid;

        Ask(int group, int land, int length, int wants) {
            this.group = group;
            this.land = land;
            this.length = length;
            this.wants = wants;
            mark = NONE;
            bench = NONE;
            shift = NONE;
        }

        void want(int benchSet, int modeSet, int gearNumber, int dangerOf) {
            benches = benchSet;
            modes = modeSet;
            gear = gearNumber;
            danger = dangerOf;
        }

        void bind(int kindOf, int from, int to) {
            kind = kindOf;
            x = from;
            y = to;
        }

        Ask owedOne(int shifts) {
            Ask one = new Ask(group, land, shifts, wants);
            one.want(benches, modes, gear, danger);
            one.bind(OWED, 0, 0);
            return one;
        }

        boolean isPlaced() {
            return bench >= 0;
        }

        int last() {
            return shift + length - 1;
        }

        /** OWED first, then URGENT, then by MARK, then by numbers. */
        boolean isAheadOf(Ask other) {
            if (rank() != other.rank()) {
                return rank() < other.rank();
            }
            if (mark != other.mark) {
                return mark > other.mark;
            }
            return number < other.number;
        }

        int rank() {
            if (kind == OWED) {
                return 0;
            }
            return kind == URGENT ? 1 : 2;
        }
    }

    /** A BENCH: SHIFT by SHIFT who has it, which HOSTS stand there, and who had it. */
    private static final class Bench {
        final int can;
        final int hosts;
        final int[] who;
        final int[] stands;
        // The HOUR on which a SHIFT was last given or taken back: who has it now has it since then.
        final int[] changed;
        int[] past;
        int pastCount;

        Bench(int can, int hosts) {
            this.can = can;
            this.hosts = hosts;
            who = new int[SHIFTS];
            stands = new int[SHIFTS];
            changed = new int[SHIFTS];
            past = new int[PAST_FIRST * PAST_WIDTH];
            for (int s = 0; s < SHIFTS; s++) {
                who[s] = NONE;
                changed[s] = NONE;
            }
        }

        boolean isOthers(int shift, int number) {
            return who[shift] != NONE && who[shift] != number;
        }

        /** The HOSTS that stand here in the SHIFTS from .. to for other ASKS than that one. */
        int standing(int from, int to, int number) {
            int set = 0;
            for (int s = from; s <= to; s++) {
                if (who[s] != number) {
                    set |= stands[s];
                }
            }
            return set;
        }

        void settle(int shift, int number, int set) {
            who[shift] = number;
            stands[shift] = set;
        }

        void date(int from, int to, int hour) {
            for (int s = from; s <= to && s < SHIFTS; s++) {
                changed[s] = hour;
            }
        }

        int knownOn(int shift, int k) {
            if (changed[shift] <= k) {
                return who[shift];
            }
            for (int i = 0; i < pastCount; i++) {
                int at = i * PAST_WIDTH;
                if (past[at + 1] <= shift && shift <= past[at + 2] && past[at + 3] <= k && k < past[at + 4]) {
                    return past[at];
                }
            }
            return NONE;
        }

        /** Keeps that an ASK had its PLACE till an HOUR; one given on that same HOUR was never known. */
        void remember(Ask ask, int hour) {
            int given = changed[ask.shift];
            if (given == hour || !hasRoomForPast()) {
                return;
            }
            int at = pastCount * PAST_WIDTH;
            past[at] = ask.number;
            past[at + 1] = ask.shift;
            past[at + 2] = ask.last();
            past[at + 3] = given;
            past[at + 4] = hour;
            pastCount++;
        }

        boolean hasRoomForPast() {
            if (pastCount >= PAST_MOST) {
                return false;
            }
            if ((pastCount + 1) * PAST_WIDTH > past.length) {
                int[] larger = new int[past.length * 2];
                System.arraycopy(past, 0, larger, 0, past.length);
                past = larger;
            }
            return true;
        }
    }

    /** A TEXT: its code has each sign behind what it joins, so that a row of numbers is enough to reckon it. */
    private static final class Text {
        final int letter;
        final int from;
        final int[] code;
        int till;
        boolean isStruck;

        Text(int letter, int from, int[] code) {
            this.letter = letter;
            this.from = from;
            this.code = code;
            till = SHIFTS;
        }

        boolean isInForce(int shift) {
            return from <= shift && shift < till;
        }

        int value(int[] facts, int[] stack) {
            int top = 0;
            for (int i = 0; i < code.length; i++) {
                int sign = code[i];
                if (sign == NOT) {
                    if (top > 0) {
                        stack[top - 1] = 1 - stack[top - 1];
                    }
                } else if (sign >= PLUS) {
                    if (top > 1) {
                        top--;
                        stack[top - 1] = joined(sign, stack[top - 1], stack[top]);
                    }
                } else if (top < stack.length) {
                    int fact = sign - FACT;
                    stack[top] = fact >= 0 && fact < facts.length ? facts[fact] : sign;
                    top++;
                }
            }
            return top > 0 ? stack[0] : 0;
        }

        static int joined(int sign, int a, int b) {
            switch (sign) {
                case PLUS: return a + b;
                case MINUS: return a - b;
                case TIMES: return a * b;
                case LESS: return a < b ? 1 : 0;
                case SAME: return a == b ? 1 : 0;
                case MORE: return a > b ? 1 : 0;
                case AND: return a & b;
                case OR: return a | b;
                case UNLESS: return a & (1 - b);
                default: return 0;
            }
        }
    }

    /** The TAPE and its reading: at stands behind what could stand, on a FAULT at its place. */
    private static final class Tape {
        final int[] bytes;
        final int[] code;
        int size;
        int codeSize;
        int at;

        Tape() {
            bytes = new int[TAPE];
            code = new int[TAPE];
        }

        int append(int n, long more) {
            for (int i = 0; i < n && size < TAPE; i++) {
                bytes[size] = (int) (more >> 8 * i & 255);
                size++;
            }
            return size;
        }

        int letter() {
            return size > 0 ? bytes[0] : NONE;
        }

        int[] written() {
            int[] copy = new int[codeSize];
            System.arraycopy(code, 0, copy, 0, codeSize);
            return copy;
        }

        boolean read() {
            at = 0;
            codeSize = 0;
            boolean isSum = next() == 'O';
            if (!skip('O') && !skip('B') && !skip('W')) {
                return false;
            }
            if (!skip(':')) {
                return false;
            }
            boolean stands = isSum ? readSum() : readJoined(0, 0);
            return stands && at == size;
        }

        int next() {
            return at < size ? bytes[at] : NONE;
        }

        boolean skip(int sign) {
            if (next() != sign) {
                return false;
            }
            at++;
            return true;
        }

        void write(int sign) {
            if (codeSize < code.length) {
                code[codeSize] = sign;
                codeSize++;
            }
        }

        /** A RULE joins by "/", level 0, what is joined by "|", level 1, of what is joined by "&", level 2. */
        private boolean readJoined(int level, int depth) {
            if (level > 2) {
                return readPart(depth);
            }
            boolean stands = readJoined(level + 1, depth);
            for (int i = 0; i < TAPE && stands && skip(level == 0 ? '/' : level == 1 ? '|' : '&'); i++) {
                stands = readJoined(level + 1, depth);
                write(level == 0 ? UNLESS : level == 1 ? OR : AND);
            }
            return stands;
        }

        /** depth: how many "!" and "(" are open around it. */
        private boolean readPart(int depth) {
            if (next() != '!' && next() != '(') {
                return readComparison();
            }
            if (depth >= DEEPEST) {
                return false;
            }
            if (skip('(')) {
                return readJoined(0, depth + 1) && skip(')');
            }
            at++;
            boolean stands = readPart(depth + 1);
            write(NOT);
            return stands;
        }

        boolean readComparison() {
            if (!readSum()) {
                return false;
            }
            int sign = signOf(next(), '<', '=', '>', LESS);
            if (sign == NONE) {
                return false;
            }
            at++;
            boolean stands = readSum();
            write(sign);
            return stands;
        }

        boolean readSum() {
            boolean stands = readUnit();
            for (int i = 0; i < TAPE && stands; i++) {
                int sign = signOf(next(), '+', '-', '*', PLUS);
                if (sign == NONE) {
                    return true;
                }
                at++;
                stands = readUnit();
                write(sign);
            }
            return stands;
        }

        /** The signs of a row of three have codes one behind the other. */
        static int signOf(int sign, int a, int b, int c, int code) {
            if (sign == a) {
                return code;
            }
            if (sign == b) {
                return code + 1;
            }
            return sign == c ? code + 2 : NONE;
        }

        boolean readUnit() {
            int fact = factNumber(next());
            if (fact != NONE) {
                at++;
                write(FACT + fact);
                return true;
            }
            int number = 0;
            int digits = 0;
            while (digits < 3 && next() >= '0' && next() <= '9') {
                number = number * 10 + next() - '0';
                at++;
                digits++;
            }
            write(number);
            return digits > 0;
        }

        static int factNumber(int sign) {
            switch (sign) {
                case 'k': return 0;
                case 'g': return 1;
                case 'l': return 2;
                case 'n': return 3;
                case 'd': return 4;
                case 'm': return 5;
                case 's': return 6;
                case 'b': return 7;
                case 't': return 8;
                default: return NONE;
            }
        }
    }

    /** The TEXTS that were told, and what they say of an ASK at a BENCH in a SHIFT. */
    private static final class Rules {
        final Text[] texts;
        final int[] facts;
        final int[] stack;
        int count;

        Rules() {
            texts = new Text[TEXTS];
            facts = new int[FACTS];
            stack = new int[TAPE];
        }

        Text textAt(int number) {
            return number >= 0 && number < count && number < TEXTS ? texts[number] : null;
        }

        int add(int letter, int from, int[] code) {
            if (count >= TEXTS) {
                return ROOM;
            }
            texts[count] = new Text(letter, from, code);
            count++;
            return count - 1;
        }

        /** In the order in which Tape.factNumber numbers them. */
        void learn(Ask ask, int bench, int shift, int lost) {
            facts[0] = ask.kind;
            facts[1] = ask.group;
            facts[2] = ask.land;
            facts[3] = ask.length;
            facts[4] = ask.danger;
            facts[5] = Math.max(0, ask.mark);
            facts[6] = shift;
            facts[7] = bench;
            facts[8] = lost;
        }

        int leastThatHolds(int letter, Ask ask, int bench, int shift) {
            learn(ask, bench, shift, 0);
            for (int i = 0; i < count; i++) {
                Text text = textAt(i);
                if (text != null && text.letter == letter && text.isInForce(shift)
                        && text.value(facts, stack) != 0) {
                    return i;
                }
            }
            return NONE;
        }

        /** The first of the two that QUARREL, or the second. */
        int quarrel(Ask ask, int bench, int shift, boolean second) {
            learn(ask, bench, shift, 0);
            for (int i = 0; i < count; i++) {
                int other = quarrelsWith(i, shift);
                if (other != NONE) {
                    return second ? other : i;
                }
            }
            return NONE;
        }

        int quarrelsWith(int number, int shift) {
            Text one = textAt(number);
            if (one == null || one.letter != 'B' || !one.isInForce(shift)) {
                return NONE;
            }
            int holds = one.value(facts, stack);
            for (int i = number + 1; i < count; i++) {
                Text other = textAt(i);
                if (other != null && other.letter == 'B' && other.isInForce(shift)
                        && other.from == one.from && other.value(facts, stack) != holds) {
                    return i;
                }
            }
            return NONE;
        }

        /** The "O" that says what is owed of what begins in a SHIFT; null if none is in force. */
        Text counting(int shift) {
            Text found = null;
            for (int i = 0; i < count; i++) {
                Text text = textAt(i);
                if (text != null && text.letter == 'O' && text.isInForce(shift)
                        && (found == null || text.from >= found.from)) {
                    found = text;
                }
            }
            return found;
        }

        int owed(Ask ask, int lost) {
            Text text = counting(ask.shift);
            if (text == null) {
                return lost / SHIFT_HOURS;
            }
            learn(ask, ask.bench, ask.shift, lost);
            return Math.max(0, Math.min(ask.length, text.value(facts, stack)));
        }
    }

    /** READERS, their KIN and their marks; keeps the MARK of every ASK. */
    private static final class Panel {
        final Hall hall;
        final int[] kin;
        final int[] told;
        // A mark that counts, by READER and ASK; NONE for one that doesn't or was not told.
        final int[] marks;
        final int[] habits;
        int scaled;

        Panel(Hall hall) {
            this.hall = hall;
            kin = new int[READERS];
            told = new int[READERS];
            marks = new int[READERS * ASKS];
            habits = new int[READERS];
            for (int i = 0; i < marks.length; i++) {
                marks[i] = NONE;
            }
        }

        boolean tellKin(int reader, int group) {
            boolean isNew = (kin[reader] >> group & 1) == 0;
            kin[reader] |= 1 << group;
            return isNew;
        }

        boolean isTold(int reader, int ask) {
            return (told[reader] >> ask & 1) != 0;
        }

        int toldOf(int ask) {
            int sum = 0;
            for (int r = 0; r < READERS; r++) {
                sum += told[r] >> ask & 1;
            }
            return sum;
        }

        int markBy(int reader, int ask) {
            int at = reader * ASKS + ask;
            return at >= 0 && at < marks.length ? marks[at] : NONE;
        }

        boolean tell(int reader, Ask ask, int v) {
            told[reader] |= 1 << ask.number;
            if ((kin[reader] >> ask.group & 1) != 0) {
                return false;
            }
            int at = reader * ASKS + ask.number;
            if (at >= 0 && at < marks.length) {
                marks[at] = v;
            }
            reckonMarks();
            return true;
        }

        int changeScaled(int v) {
            int before = scaled;
            scaled = v;
            reckonMarks();
            return before;
        }

        /** Kept, as rules and plans ask for MARKS far more often than marks are told. */
        void reckonMarks() {
            for (int r = 0; r < READERS; r++) {
                habits[r] = scaled == 1 ? habitOf(r) : 0;
            }
            for (int i = 0; i < hall.askCount; i++) {
                Ask ask = hall.askAt(i);
                if (ask != null) {
                    ask.mark = joinedMark(i);
                }
            }
        }

        int joinedMark(int ask) {
            int sum = 0;
            int many = 0;
            for (int r = 0; r < READERS; r++) {
                if (markBy(r, ask) != NONE) {
                    sum += markBy(r, ask) - habits[r];
                    many++;
                }
            }
            return many == 0 ? NONE : Math.max(0, Math.min(MOST_MARK, sum / many));
        }

        /** A mark times how many others, less the sum of theirs, is the sum of the differences. */
        int habitOf(int reader) {
            int sum = 0;
            int many = 0;
            for (int i = 0; i < hall.askCount; i++) {
                for (int r = 0; r < READERS; r++) {
                    if (areTwoMarks(reader, r, i)) {
                        sum += markBy(reader, i) - markBy(r, i);
                        many++;
                    }
                }
            }
            return many == 0 ? 0 : Math.floorDiv(sum, many);
        }

        int doubtOf(int reader) {
            int least = MOST_MARK + 1;
            int greatest = -MOST_MARK - 1;
            for (int i = 0; i < hall.askCount; i++) {
                for (int r = 0; r < READERS; r++) {
                    if (areTwoMarks(reader, r, i)) {
                        int difference = markBy(reader, i) - markBy(r, i);
                        least = Math.min(least, difference);
                        greatest = Math.max(greatest, difference);
                    }
                }
            }
            return Math.max(0, greatest - least);
        }

        boolean areTwoMarks(int reader, int other, int ask) {
            return reader != other && markBy(reader, ask) != NONE && markBy(other, ask) != NONE;
        }
    }

    /** BENCHES, ASKS and PLACES: what FITS, what is given and what is taken back. */
    private static final class Hall {
        final Beam beam;
        final Rules rules;
        final Ask[] asks;
        final Bench[] benches;
        int askCount;
        int benchCount;
        int rest;

        Hall(Beam beam, Rules rules) {
            this.beam = beam;
            this.rules = rules;
            asks = new Ask[ASKS];
            benches = new Bench[BENCHES];
            rest = 1;
        }

        Ask askAt(int number) {
            return number >= 0 && number < askCount && number < ASKS ? asks[number] : null;
        }

        Bench benchAt(int number) {
            return number >= 0 && number < benchCount && number < BENCHES ? benches[number] : null;
        }

        int addBench(int can, int hostSet) {
            if (benchCount >= BENCHES) {
                return ROOM;
            }
            benches[benchCount] = new Bench(can, hostSet);
            benchCount++;
            return benchCount - 1;
        }

        int addAsk(Ask ask) {
            if (askCount >= ASKS) {
                return ROOM;
            }
            asks[askCount] = ask;
            ask.number = askCount;
            askCount++;
            return ask.number;
        }

        int changeRest(int v) {
            int before = rest;
            rest = v;
            return before;
        }

        boolean areAsks(int set) {
            return set >= 0 && set < 1 << ASKS && set >> askCount == 0;
        }

        boolean areAllFree(int set) {
            for (int i = 0; i < askCount; i++) {
                Ask ask = askAt(i);
                if (isIn(set, i) && (ask == null || ask.isPlaced() || ask.withdrawn)) {
                    return false;
                }
            }
            return true;
        }

        int placedAsks() {
            int sum = 0;
            for (int i = 0; i < askCount; i++) {
                Ask ask = askAt(i);
                if (ask != null && ask.isPlaced()) {
                    sum++;
                }
            }
            return sum;
        }

        int placedShifts() {
            int sum = 0;
            for (int i = 0; i < askCount; i++) {
                Ask ask = askAt(i);
                if (ask != null && ask.isPlaced()) {
                    sum += ask.length;
                }
            }
            return sum;
        }

        int loss(Ask ask) {
            return ask.isPlaced() ? beam.lostFrom(ask.shift, ask.length) : 0;
        }

        int owed(Ask ask) {
            return ask.isPlaced() ? rules.owed(ask, loss(ask)) : 0;
        }

        boolean mayMove(Ask ask) {
            return ask.isPlaced() && !beam.hasBegun(ask.shift);
        }

        /** FIT: the first BAR, SHIFT by SHIFT; what the ASK itself has does not stand in its way. */
        int firstBar(Ask ask, int bench, int shift) {
            for (int i = 0; i < ask.length; i++) {
                int bar = barIn(ask, bench, shift, shift + i);
                if (bar != 0) {
                    return bar;
                }
            }
            return 0;
        }

        int barIn(Ask ask, int bench, int first, int shift) {
            int fixed = fixedBar(ask, bench, shift);
            if (fixed != 0) {
                return fixed;
            }
            if (isHadByOther(ask, bench, shift)) {
                return BAR_HAD;
            }
            if (isGearElsewhere(ask, bench, shift)) {
                return BAR_GEAR;
            }
            if (rules.leastThatHolds('B', ask, bench, shift) != NONE) {
                return BAR_TEXT;
            }
            if (lacksHosts(ask, bench, shift, rules.leastThatHolds('W', ask, bench, shift) != NONE)) {
                return BAR_HOSTS;
            }
            if (isTooNear(ask, first)) {
                return BAR_TIED;
            }
            return isBeyondDays(ask, shift) ? BAR_LIVING : 0;
        }

        int fixedBar(Ask ask, int benchNumber, int shift) {
            Bench bench = benchAt(benchNumber);
            if (bench == null || (ask.benches >> benchNumber & 1) == 0) {
                return BAR_BENCHES;
            }
            if ((bench.can >> ask.wants & 1) == 0) {
                return BAR_CAN;
            }
            if (!isShift(shift) || beam.hasBegun(shift)) {
                return BAR_BEGUN;
            }
            if (beam.modes[shift] == WORKS || beam.lost[shift] == ALL_HOURS) {
                return BAR_WORKS;
            }
            return (ask.modes >> beam.modes[shift] & 1) == 0 ? BAR_MODE : 0;
        }

        boolean isHadByOther(Ask ask, int benchNumber, int shift) {
            Bench bench = benchAt(benchNumber);
            return bench != null && bench.isOthers(shift, ask.number);
        }

        boolean isGearElsewhere(Ask ask, int benchNumber, int shift) {
            if (ask.gear < 0) {
                return false;
            }
            for (int b = 0; b < benchCount; b++) {
                Bench bench = benchAt(b);
                if (b != benchNumber && bench != null && bench.isOthers(shift, ask.number)) {
                    Ask other = askAt(bench.who[shift]);
                    if (other != null && other.gear == ask.gear) {
                        return true;
                    }
                }
            }
            return false;
        }

        boolean lacksHosts(Ask ask, int bench, int shift, boolean isWatched) {
            return Integer.bitCount(freeHosts(ask, bench, shift)) < (isWatched ? 2 : 1);
        }

        int freeHosts(Ask ask, int benchNumber, int shift) {
            int from = Math.max(0, shift - rest);
            int to = Math.min(SHIFTS - 1, shift + rest);
            int busy = 0;
            for (int b = 0; b < benchCount; b++) {
                Bench bench = benchAt(b);
                if (bench != null) {
                    busy |= bench.standing(from, to, ask.number);
                }
            }
            Bench here = benchAt(benchNumber);
            return here == null ? 0 : here.hosts & ~busy;
        }

        boolean isTooNear(Ask ask, int first) {
            if (ask.kind != TIED) {
                return false;
            }
            Ask other = askAt(ask.x);
            return other == null || !other.isPlaced() || first - other.last() - 1 < ask.y;
        }

        boolean isBeyondDays(Ask ask, int shift) {
            return ask.kind == LIVING && (shift < ask.x || shift > ask.y);
        }

        /** None of the BARS that do not hang on what others have. */
        boolean suits(Ask ask, int bench, int shift) {
            for (int s = shift; s < shift + ask.length; s++) {
                if (fixedBar(ask, bench, s) != 0 || rules.leastThatHolds('B', ask, bench, s) != NONE
                        || isBeyondDays(ask, s)) {
                    return false;
                }
            }
            return true;
        }

        /** None of the BARS that hang on what others have, but for TIED: others can only bring more of them. */
        boolean isOpen(Ask ask, int bench, int shift, int watch) {
            for (int i = 0; i < ask.length; i++) {
                int s = shift + i;
                if (!isShift(s) || isHadByOther(ask, bench, s) || isGearElsewhere(ask, bench, s)
                        || lacksHosts(ask, bench, s, (watch >> i & 1) != 0)) {
                    return false;
                }
            }
            return true;
        }

        /** In which of its SHIFTS an ASK would be WATCHED, as a set. */
        int watchOf(Ask ask, int bench, int shift) {
            int watch = 0;
            for (int i = 0; i < ask.length; i++) {
                if (rules.leastThatHolds('W', ask, bench, shift + i) != NONE) {
                    watch |= 1 << i;
                }
            }
            return watch;
        }

        void place(Ask ask, int benchNumber, int shift) {
            lay(ask, benchNumber, shift, watchOf(ask, benchNumber, shift));
            Bench bench = benchAt(benchNumber);
            if (bench != null) {
                bench.date(shift, shift + ask.length - 1, beam.now);
            }
        }

        void clear(Ask ask) {
            Bench bench = benchAt(ask.bench);
            if (bench != null) {
                bench.remember(ask, beam.now);
                bench.date(ask.shift, ask.last(), beam.now);
            }
            lift(ask);
        }

        boolean clearUnfit(Ask ask) {
            if (!mayMove(ask) || firstBar(ask, ask.bench, ask.shift) == 0) {
                return false;
            }
            clear(ask);
            return true;
        }

        /** Gives a PLACE without a word of it in what was had: for trials, too. */
        void lay(Ask ask, int benchNumber, int shift, int watch) {
            Bench bench = benchAt(benchNumber);
            if (bench == null) {
                return;
            }
            ask.bench = benchNumber;
            ask.shift = shift;
            for (int i = 0; i < ask.length && isShift(shift + i); i++) {
                int free = freeHosts(ask, benchNumber, shift + i);
                int first = free & -free;
                int others = free & ~first;
                int second = (watch >> i & 1) != 0 ? others & -others : 0;
                bench.settle(shift + i, ask.number, first | second);
            }
        }

        void lift(Ask ask) {
            Bench bench = benchAt(ask.bench);
            for (int s = ask.shift; bench != null && s <= ask.last() && isShift(s); s++) {
                bench.settle(s, NONE, 0);
            }
            ask.bench = NONE;
            ask.shift = NONE;
        }
    }

    /** PLAN, AGAIN and SHARE. */
    private static final class Planner {
        final Hall hall;
        final Beam beam;
        final Ask[] order;
        final int[] passed;
        final int[] oldBench;
        final int[] oldShift;
        int orderSize;
        int passedCount;
        int share;

        Planner(Hall hall, Beam beam) {
            this.hall = hall;
            this.beam = beam;
            order = new Ask[ASKS];
            passed = new int[ASKS];
            oldBench = new int[ASKS];
            oldShift = new int[ASKS];
            share = MOST_SHARE;
        }

        int changeShare(int v) {
            int before = share;
            share = v;
            return before;
        }

        int passedAt(int i) {
            return i >= 0 && i < passedCount ? passed[i] : NONE;
        }

        /** Keeps the row in ORDER. */
        void enter(Ask ask) {
            if (orderSize >= ASKS) {
                return;
            }
            int at = orderSize;
            while (at > 0 && ask.isAheadOf(order[at - 1])) {
                order[at] = order[at - 1];
                at--;
            }
            order[at] = ask;
            orderSize++;
        }

        int planAll(int a, int b) {
            orderSize = 0;
            passedCount = 0;
            for (int i = 0; i < hall.askCount; i++) {
                Ask ask = hall.askAt(i);
                if (ask != null && !ask.isPlaced() && !ask.withdrawn) {
                    enter(ask);
                }
            }
            for (int i = 0; i < orderSize; i++) {
                // SHARE does not hang on the place: all of it lies from a to b.
                if (!isInShare(order[i], a, b) || !placeFirst(order[i], a, b)) {
                    passed[passedCount] = order[i].number;
                    passedCount++;
                }
            }
            return orderSize - passedCount;
        }

        boolean placeFirst(Ask ask, int a, int b) {
            for (int s = a; s + ask.length - 1 <= b; s++) {
                for (int bench = 0; bench < hall.benchCount; bench++) {
                    if (hall.firstBar(ask, bench, s) == 0) {
                        hall.place(ask, bench, s);
                        return true;
                    }
                }
            }
            return false;
        }

        boolean isInShare(Ask ask, int a, int b) {
            if (ask.kind == OWED) {
                return true;
            }
            int given = ask.length;
            for (int i = 0; i < hall.askCount; i++) {
                Ask other = hall.askAt(i);
                if (other != null && other != ask && other.kind != OWED && other.land == ask.land
                        && other.isPlaced() && other.shift >= a && other.shift <= b) {
                    given += Math.min(b, other.last()) - other.shift + 1;
                }
            }
            return given <= share * hall.benchCount * (b - a + 1) / 100;
        }

        int planAgain() {
            orderSize = 0;
            for (int i = 0; i < hall.askCount; i++) {
                Ask ask = hall.askAt(i);
                if (ask != null) {
                    oldBench[i] = ask.bench;
                    oldShift[i] = ask.shift;
                    if (hall.clearUnfit(ask)) {
                        enter(ask);
                    }
                }
            }
            int moved = 0;
            for (int i = 0; i < orderSize; i++) {
                Ask ask = order[i];
                placeFirst(ask, beam.now / SHIFT_HOURS + 1, SHIFTS - 1);
                if (ask.bench != oldBench[ask.number] || ask.shift != oldShift[ask.number]) {
                    moved++;
                }
            }
            return moved;
        }
    }

    /** BEST: tries places in order, and leaves what can not come above the best found so far. */
    private static final class Best {
        final Hall hall;
        final Ask[] members;
        final int[] spots;
        final int[] watches;
        final int[] spotCounts;
        final int[] reach;
        final int[] tried;
        final int[] found;
        int size;
        int sum;

        Best(Hall hall) {
            this.hall = hall;
            members = new Ask[BEST_ASKS];
            spots = new int[BEST_ASKS * BEST_SPOTS];
            watches = new int[BEST_ASKS * BEST_SPOTS];
            spotCounts = new int[BEST_ASKS];
            reach = new int[BEST_ASKS + 1];
            tried = new int[BEST_ASKS];
            found = new int[BEST_ASKS];
        }

        void search(int a, int b, int set) {
            size = 0;
            for (int i = 0; i < hall.askCount; i++) {
                Ask ask = hall.askAt(i);
                if (ask != null && isIn(set, i) && size < BEST_ASKS) {
                    members[size] = ask;
                    size++;
                }
            }
            for (int i = 0; i < size; i++) {
                collect(i, a, b, set);
            }
            reach[size] = 0;
            for (int i = size - 1; i >= 0; i--) {
                reach[i] = reach[i + 1] + (spotCounts[i] > 0 ? worth(i) : 0);
            }
            sum = -1;
            extend(0, 0);
        }

        int worth(int i) {
            return Math.max(0, members[i].mark);
        }

        /** The places of a member that it may have if those ahead of it leave them. */
        void collect(int i, int a, int b, int set) {
            Ask ask = members[i];
            spotCounts[i] = 0;
            boolean isTiedInside = ask.kind == TIED && isIn(set, ask.x);
            for (int s = a; s + ask.length - 1 <= b; s++) {
                if (isTiedInside || !hall.isTooNear(ask, s)) {
                    collectIn(i, s);
                }
            }
        }

        void collectIn(int i, int shift) {
            Ask ask = members[i];
            for (int bench = 0; bench < hall.benchCount; bench++) {
                if (!hall.suits(ask, bench, shift) || spotCounts[i] >= BEST_SPOTS) {
                    continue;
                }
                int watch = hall.watchOf(ask, bench, shift);
                if (hall.isOpen(ask, bench, shift, watch)) {
                    int at = i * BEST_SPOTS + spotCounts[i];
                    spots[at] = 8 * shift + bench;
                    watches[at] = watch;
                    spotCounts[i]++;
                }
            }
        }

        /** at is the depth: BEST_ASKS at most. */
        private void extend(int at, int sumSoFar) {
            if (at > BEST_ASKS || sumSoFar + reach[at] <= sum) {
                return;
            }
            if (at == size) {
                sum = sumSoFar;
                System.arraycopy(tried, 0, found, 0, size);
                return;
            }
            Ask ask = members[at];
            int with = sumSoFar + worth(at);
            for (int i = 0; i < spotCounts[at] && with + reach[at + 1] > sum; i++) {
                int spot = spots[at * BEST_SPOTS + i];
                int watch = watches[at * BEST_SPOTS + i];
                if (!hall.isTooNear(ask, spot / 8) && hall.isOpen(ask, spot % 8, spot / 8, watch)) {
                    hall.lay(ask, spot % 8, spot / 8, watch);
                    tried[at] = spot;
                    extend(at + 1, with);
                    hall.lift(ask);
                }
            }
            tried[at] = NONE;
            extend(at + 1, sumSoFar);
        }

        int spotOf(int ask) {
            for (int i = 0; i < size; i++) {
                if (members[i].number == ask) {
                    return found[i];
                }
            }
            return NONE;
        }
    }

    /** WISHES and the RING of ASKS that change PLACES. */
    private static final class Circle {
        final Hall hall;
        final int[] wishes;
        // Of the wishes, those that could come true as far as others do not count.
        final int[] sound;
        final Ask[] members;
        final int[] bench;
        final int[] shift;
        final int[] stood;
        int size;

        Circle(Hall hall) {
            this.hall = hall;
            wishes = new int[ASKS];
            sound = new int[ASKS];
            members = new Ask[RING_MOST];
            bench = new int[RING_MOST];
            shift = new int[RING_MOST];
            stood = new int[RING_MOST * MOST_LONG];
        }

        boolean tell(int ask, int other, boolean on) {
            boolean was = (wishes[ask] >> other & 1) != 0;
            if (on) {
                wishes[ask] |= 1 << other;
            } else {
                wishes[ask] &= ~(1 << other);
            }
            return was != on;
        }

        int memberAt(int i) {
            return i >= 0 && i < size ? members[i].number : NONE;
        }

        int find() {
            for (int i = 0; i < hall.askCount; i++) {
                sound[i] = soundWishes(i);
            }
            for (int length = 2; length <= RING_MOST; length++) {
                size = length;
                for (int i = 0; i < hall.askCount; i++) {
                    members[0] = hall.askAt(i);
                    if (sound[i] != 0 && closes(1)) {
                        return length;
                    }
                }
            }
            size = 0;
            return 0;
        }

        int soundWishes(int number) {
            Ask ask = hall.askAt(number);
            if (ask == null || !hall.mayMove(ask)) {
                return 0;
            }
            int set = 0;
            for (int i = 0; i < hall.askCount; i++) {
                Ask other = hall.askAt(i);
                if (other != null && isIn(wishes[number], i) && hall.mayMove(other)
                        && other.length == ask.length && hall.suits(ask, other.bench, other.shift)) {
                    set |= 1 << i;
                }
            }
            return set;
        }

        /** Whether the row that is found so far can be led back to its first one; at is the depth: size at most. */
        private boolean closes(int at) {
            int least = members[0].number;
            int from = members[at - 1].number;
            if (at >= size || at >= RING_MOST) {
                return isIn(sound[from], least) && canTurn();
            }
            for (int i = least + 1; i < hall.askCount; i++) {
                Ask next = hall.askAt(i);
                if (next != null && isIn(sound[from], i) && isNewGroup(next.group, at)) {
                    members[at] = next;
                    if (closes(at + 1)) {
                        return true;
                    }
                }
            }
            return false;
        }

        boolean isNewGroup(int group, int at) {
            for (int i = 0; i < at; i++) {
                if (members[i].group == group) {
                    return false;
                }
            }
            return true;
        }

        /** Tries it, one given after the other from the least one on, and puts all back as it was. */
        boolean canTurn() {
            keepPlaces();
            for (int i = 0; i < size; i++) {
                hall.lift(members[i]);
            }
            int laid = 0;
            for (int i = 0; i < size && laid == i; i++) {
                int to = (i + 1) % size;
                Ask ask = members[i];
                int watch = hall.watchOf(ask, bench[to], shift[to]);
                if (!hall.isTooNear(ask, shift[to]) && hall.isOpen(ask, bench[to], shift[to], watch)) {
                    hall.lay(ask, bench[to], shift[to], watch);
                    laid++;
                }
            }
            for (int i = 0; i < size; i++) {
                restore(i);
            }
            return laid == size;
        }

        void keepPlaces() {
            for (int i = 0; i < size; i++) {
                Ask ask = members[i];
                Bench has = hall.benchAt(ask.bench);
                bench[i] = ask.bench;
                shift[i] = ask.shift;
                for (int j = 0; j < ask.length && has != null; j++) {
                    stood[i * MOST_LONG + j] = has.stands[ask.shift + j];
                }
            }
        }

        /** All of like LONG: what was laid in the trial is covered by these. */
        void restore(int i) {
            Ask ask = members[i];
            Bench had = hall.benchAt(bench[i]);
            ask.bench = bench[i];
            ask.shift = shift[i];
            for (int j = 0; j < ask.length && had != null; j++) {
                had.settle(shift[i] + j, ask.number, stood[i * MOST_LONG + j]);
            }
        }

        /** SWAPPED: the RING was found, so that all FIT in this order. */
        int turn() {
            keepPlaces();
            for (int i = 0; i < size; i++) {
                hall.clear(members[i]);
            }
            for (int i = 0; i < size; i++) {
                int to = (i + 1) % size;
                hall.place(members[i], bench[to], shift[to]);
                wishes[members[i].number] = 0;
            }
            return size;
        }
    }
}
