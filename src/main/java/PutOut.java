import java.util.Arrays;

/**
 * Things that guests have given, and where to put them when these guests come.
 *
 * Words in capitals are the document's (shared/DOC.md). Inside, a PLACE is also told as a
 * "spot": 0 is nowhere, and 1 more than its number is a PLACE, so that rows can be indexed by it.
 */
public final class PutOut {
    public static final int NONE = -1, BAD = -2, STATE = -3, FULL = -4;
    public static final long NO = -4611686018427387904L;

    private static final int NONE_SUCH = -100, MISSING = -11, OUTSIDE = -12, UNLIKE = -13, NEGATIVE = -14;
    private static final int PLACES = 6, SPOTS = 7, USES = 64, GUESTS = 4, SETS = 16, DAYS = 7;
    private static final int THINGS = 5, KINDS = 6, DIGIT = 10, PAIR = 100;
    private static final int TAPE = 160, TEXTS = 6, SHEETS = 4, CELLS = 40, SORTS = 3, SEEDS = 10;

    /** Far above what any ROOM costs for a week (below 30000), and five of it are still an int. */
    private static final int TOO_MUCH = 1000000;

    /** The parts of a TEXT, and the bound of what each tells. */
    private static final int MOVES = 0, UGLY = 1, MINDS = 2, PARTS = 3, BOUND = 99;

    /**
     * TOKENS, and what a read TEXT is made of: a number from 0 on stands for itself. KEY less a part
     * (0 .. 2) is the word that begins it.
     */
    private static final int IS_THING = -1, IS_PLACE = -2, IS_GIVER = -3, IS_GUESTS = -4, IS_LOOK = -5,
            IS_NUMBER = -6, OR = -7, AND = -8, NOT = -9, LESS = -10, LIKE = -11, PLUS = -12, MINUS = -13,
            TIMES = -14, NEGATED = -15, END_OF_PART = -16, OPENS = -17, CLOSES = -18, KEY = -19,
            DIGITS = -22, END_OF_TAPE = -23, WRONG = -24;

    /** So many of ( , not, - may be open, and so many digits may a NUMBER have. */
    private static final int DEEPEST = 5, LONGEST = 4;

    private static final String FIRST_TEXT = "moves 1 ; ugly 9 - look ; minds 20 ;";

    private final House house = new House();
    private House kept = null;
    private final int[] tape = new int[TAPE];
    private int fed = 0;
    private final Reader reader = new Reader();
    private final Text[] texts = new Text[TEXTS];
    private int textCount = 0;
    private final Sheet[] sheets = new Sheet[SHEETS];
    private final Planner planner = new Planner();

    public PutOut() {
        for (int i = 0; i < SHEETS; i++) {
            sheets[i] = new Sheet();
        }
        for (int i = 0; i < FIRST_TEXT.length(); i++) {
            tape[i] = FIRST_TEXT.charAt(i);
        }
        reader.read(tape, FIRST_TEXT.length());
        texts[0] = reader.made();
        textCount = 1;
    }

    // ---- places, guests, things

    public int set(int what, int of, int v) {
        switch (what) {
            case 0:
                return exchange(house.sight, of, v, SETS);
            case 1:
                return exchange(house.seats, of, v, GUESTS);
            case 2:
                return exchange(house.days, of, v, SETS);
            case 3:
            case 4:
            case 5:
                return house.has(of) ? house.things[of].change(what, v) : BAD;
            default:
                return BAD;
        }
    }

    public int thing(int kind, int what, int giver) {
        if (!isBelow(kind, KINDS) || !isBelow(what, PAIR) || !isBelow(giver, GUESTS)) {
            return BAD;
        }
        if (house.count >= THINGS) {
            return FULL;
        }
        int index = house.count;
        house.things[index] = made(kind, index, what, giver);
        house.count = index + 1;
        return index;
    }

    public int put(int thing, int place) {
        if (!house.has(thing) || place != NONE && !isBelow(place, PLACES)) {
            return BAD;
        }
        Thing x = house.things[thing];
        if (x.place == place) {
            return 0;
        }
        if (place != NONE && (!x.stands(place) || house.isTaken(place))) {
            return STATE;
        }
        x.place = place;
        return x.movesTo(rule(), place + 1);
    }

    public int told(int thing, int what) {
        if (!house.has(thing)) {
            return NONE_SUCH;
        }
        Thing x = house.things[thing];
        switch (what) {
            case 0:
                return x.kind;
            case 1:
                return x.number;
            case 2:
                return x.giver;
            case 3:
                return x.look;
            case 4:
                return x.place;
            case 5:
                return isBelow(x.place, PLACES) ? viewersOf(house.sight[x.place], house.seats) : 0;
            default:
                return what < 6 || what >= 6 + PLACES ? NONE_SUCH : x.stands(what - 6) ? 1 : 0;
        }
    }

    // ---- texts

    public int feed(int letter) {
        if (!isBelow(letter, 256)) {
            return BAD;
        }
        if (fed >= TAPE) {
            return FULL;
        }
        tape[fed] = letter;
        fed++;
        return fed;
    }

    public int text() {
        if (textCount >= TEXTS) {
            return FULL;
        }
        int fault = reader.read(tape, fed);
        fed = 0;
        if (fault != NONE) {
            return NONE_SUCH - fault;
        }
        texts[textCount] = reader.made();
        textCount++;
        return textCount - 1;
    }

    public int force(int text) {
        if (!isBelow(text, textCount)) {
            return BAD;
        }
        int was = house.rule;
        house.rule = text;
        return was;
    }

    // ---- days

    public int day(int guests, int what) {
        if (!isBelow(guests, SETS) || !isBelow(what, 4)) {
            return BAD;
        }
        planner.start(house, rule());
        return what == 0 ? planner.badDay(guests) : planner.thingsThat(guests, what);
    }

    public int best(int guests, int n, int what) {
        if (!isBelow(guests, SETS) || n < 0 || n > THINGS || what != NONE && !house.has(what)) {
            return NONE_SUCH;
        }
        planner.start(house, rule());
        int cost = planner.bestFor(guests, n);
        return what == NONE ? cost : planner.found[what];
    }

    public int tidy(int guests) {
        if (!isBelow(guests, SETS)) {
            return BAD;
        }
        planner.start(house, rule());
        int cost = planner.bestFor(guests, THINGS);
        for (int t = 0; t < house.count; t++) {
            house.things[t].place = planner.found[t];
        }
        return cost;
    }

    public int once(int what) {
        if (what != NONE && !house.has(what)) {
            return NONE_SUCH;
        }
        planner.start(house, rule());
        int cost = planner.onceCost();
        return what == NONE ? cost : planner.found[what];
    }

    public int week(int what) {
        if (!isBelow(what, 3)) {
            return BAD;
        }
        planner.start(house, rule());
        int cost = planner.weekCost();
        return what == 0 ? cost : what == 1 ? planner.movedThings : planner.movedDays;
    }

    // ---- whom, what

    public int dearest(int what) {
        if (!isBelow(what, 2)) {
            return BAD;
        }
        planner.start(house, rule());
        int who = 0;
        int least = TOO_MUCH;
        for (int g = 0; g < GUESTS; g++) {
            planner.leaveOut(house.days, g);
            int cost = planner.weekCost();
            if (cost < least) {
                least = cost;
                who = g;
            }
        }
        return what == 0 ? who : least;
    }

    public int give() {
        planner.start(house, rule());
        int which = NONE;
        int least = planner.weekCost();
        for (int t = 0; t < house.count; t++) {
            planner.giveAway(t);
            int cost = planner.weekCost() + planner.lackOf(t);
            if (cost < least) {
                least = cost;
                which = t;
            }
        }
        return which;
    }

    public int seat(int guest, int day) {
        if (!isBelow(guest, GUESTS) || !isBelow(day, DAYS)) {
            return BAD;
        }
        planner.start(house, rule());
        int where = 0;
        int least = TOO_MUCH;
        for (int s = 0; s < GUESTS; s++) {
            planner.sits(guest, s);
            int cost = planner.badDay(house.days[day]);
            if (cost < least) {
                least = cost;
                where = s;
            }
        }
        return where;
    }

    // ---- a room that was seen

    public int seen(int sheet, int what) {
        if (!isBelow(sheet, SHEETS) || !isBelow(what, 3)) {
            return BAD;
        }
        Sheet row = sheets[sheet];
        if (row.sort == NONE) {
            return MISSING;
        }
        if (row.size != house.count) {
            return BAD;
        }
        planner.start(house, rule());
        if (!planner.enters(row.cells)) {
            return STATE;
        }
        if (what == 2) {
            return planner.surprised();
        }
        int sets = planner.expected();
        return what == 0 ? Integer.bitCount(sets) : lowestBit(sets);
    }

    public int film(int sheet, int guests) {
        if (!isBelow(sheet, SHEETS) || !isBelow(guests, SETS)) {
            return BAD;
        }
        planner.start(house, rule());
        planner.bestFor(guests, THINGS);
        Sheet row = sheets[sheet];
        row.become(0, house.count);
        System.arraycopy(planner.found, 0, row.cells, 0, house.count);
        return house.count;
    }

    public int drawn(int seed) {
        planner.start(house, rule());
        planner.draw(seed);
        return planner.weekCost();
    }

    public long chance(int seed, int n, int part) {
        if (n < 1 || n > SEEDS || !isBelow(part, 2)) {
            return NO;
        }
        planner.start(house, rule());
        int above = 0;
        for (int i = 0; i < n; i++) {
            planner.draw(seed + i);
            if (planner.onceCost() <= planner.weekCost()) {
                above++;
            }
        }
        int common = commonDivisor(n, above);
        return (part == 0 ? above : n) / common;
    }

    public int image() {
        if (kept == null) {
            kept = new House();
        }
        kept.take(house);
        return kept.count;
    }

    public int back() {
        if (kept == null) {
            return STATE;
        }
        house.take(kept);
        return house.count;
    }

    public int count(int what) {
        if (what >= 5 && what < 5 + PLACES) {
            return house.sight[what - 5];
        }
        if (what >= 11 && what < 11 + GUESTS) {
            return house.seats[what - 11];
        }
        if (what >= 15 && what < 15 + DAYS) {
            return house.days[what - 15];
        }
        switch (what) {
            case 0:
                return house.count;
            case 1:
                return house.howManyArePut();
            case 2:
                return textCount;
            case 3:
                return fed;
            case 4:
                return house.rule;
            default:
                return BAD;
        }
    }

    // ---- the host

    public int sheet(int sheet, int sort, int n) {
        if (!isBelow(sheet, SHEETS) || sort != NONE && !isBelow(sort, SORTS)) {
            return BAD;
        }
        if (sort == NONE) {
            sheets[sheet].become(NONE, 0);
            return 1;
        }
        if (n > CELLS) {
            return BAD;
        }
        if (n < 0) {
            return NEGATIVE;
        }
        sheets[sheet].become(sort, n);
        return 1;
    }

    public int cell(int sheet, int i, int v) {
        if (!isBelow(sheet, SHEETS)) {
            return BAD;
        }
        Sheet row = sheets[sheet];
        if (row.sort == NONE) {
            return MISSING;
        }
        if (!isBelow(i, row.size)) {
            return OUTSIDE;
        }
        row.cells[i] = row.narrowed(v);
        return 1;
    }

    public int copy(int sheet, int i, int other, int j, int n) {
        if (!isBelow(sheet, SHEETS) || !isBelow(other, SHEETS)) {
            return BAD;
        }
        Sheet from = sheets[sheet];
        Sheet to = sheets[other];
        if (from.sort == NONE || to.sort == NONE) {
            return MISSING;
        }
        if (from.sort != to.sort) {
            return UNLIKE;
        }
        if (!from.holds(i, n) || !to.holds(j, n)) {
            return OUTSIDE;
        }
        System.arraycopy(from.cells, i, to.cells, j, n);
        return n;
    }

    public int things(int sheet, int sort, int from, int n) {
        if (!isBelow(sheet, SHEETS) || !isBelow(sort, SORTS) || n < 0 || n > THINGS) {
            return BAD;
        }
        Sheet row = sheets[sheet];
        // A missing SHEET is of no sort, so it can't be of another one.
        if (row.sort == NONE) {
            return MISSING;
        }
        if (row.sort != sort) {
            return UNLIKE;
        }
        int came = 0;
        for (int i = 0; i < n; i++) {
            int at = from + 3 * i;
            if (!row.holds(at, 3)) {
                return OUTSIDE;
            }
            if (thing(row.cells[at], row.cells[at + 1], row.cells[at + 2]) >= 0) {
                came++;
            }
        }
        return came;
    }

    public int taken(int thing, int k) {
        if (!isBelow(k, KINDS)) {
            return BAD;
        }
        if (!house.has(thing)) {
            return MISSING;
        }
        Thing x = house.things[thing];
        return isOf(x, k) ? x.number : UNLIKE;
    }

    // ---- what several calls need

    private Text rule() {
        return texts[house.rule];
    }

    private static boolean isBelow(int v, int bound) {
        return v >= 0 && v < bound;
    }

    private static int exchange(int[] row, int i, int v, int bound) {
        if (!isBelow(i, row.length) || !isBelow(v, bound)) {
            return BAD;
        }
        int was = row[i];
        row[i] = v;
        return was;
    }

    private static Thing made(int kind, int index, int what, int giver) {
        switch (kind) {
            case 1:
                return new Picture(kind, index, what, giver);
            case 2:
                return new Clock(kind, index, what, giver);
            case 3:
                return new Portrait(kind, index, what, giver);
            case 4:
                return new Vase(kind, index, what, giver);
            case 5:
                return new Broken(kind, index, what, giver);
            default:
                return new Thing(kind, index, what, giver);
        }
    }

    private static boolean isOf(Thing x, int kind) {
        switch (kind) {
            case 1:
                return x instanceof Picture;
            case 2:
                return x instanceof Clock;
            case 3:
                return x instanceof Portrait;
            case 4:
                return x instanceof Vase;
            case 5:
                return x instanceof Broken;
            default:
                return true;
        }
    }

    /** The GUESTS (bits) whose SEAT is of a SIGHT. */
    private static int viewersOf(int sight, int[] seats) {
        int viewers = 0;
        for (int g = 0; g < GUESTS; g++) {
            if (hasBit(sight, seats[g])) {
                viewers |= 1 << g;
            }
        }
        return viewers;
    }

    private static boolean hasBit(int bits, int i) {
        return (bits >> i & 1) != 0;
    }

    private static int lowestBit(int bits) {
        for (int i = 0; i < SETS; i++) {
            if (hasBit(bits, i)) {
                return i;
            }
        }
        return NONE;
    }

    /** At least 1, whatever is asked. */
    private static int commonDivisor(int a, int b) {
        for (int d = Math.max(a, b); d > 1; d--) {
            if (a % d == 0 && b % d == 0) {
                return d;
            }
        }
        return 1;
    }

    // ---- KINDS

    /** A THING, and what it costs: learnt from THE RULE ahead of a search, since a search asks often. */
    private static class Thing {
        final int kind;
        final int index;
        int number;
        int giver;
        int look;
        int place = NONE;
        private final int[] moves = new int[SPOTS];
        private final int[] ugly = new int[SPOTS];
        private final int[] minds = new int[GUESTS + 1];
        private final int[] offences = new int[SETS];
        private int lack = 0;
        private final int[] barred = new int[SPOTS];
        final int[] price = new int[SPOTS];

        Thing(int kind, int index, int what, int giver) {
            this.kind = kind;
            this.index = index;
            this.number = what / DIGIT;
            this.look = what % DIGIT;
            this.giver = giver;
        }

        boolean stands(int p) {
            return true;
        }

        int missed() {
            return 1;
        }

        int offends(int x) {
            return 0;
        }

        final int change(int what, int v) {
            if (!isBelow(v, what == 4 ? GUESTS : DIGIT)) {
                return BAD;
            }
            int was;
            if (what == 3) {
                was = number;
                number = v;
            } else if (what == 4) {
                was = giver;
                giver = v;
            } else {
                was = look;
                look = v;
            }
            return was;
        }

        final void take(Thing other) {
            number = other.number;
            giver = other.giver;
            look = other.look;
            place = other.place;
        }

        final int movesTo(Text rule, int spot) {
            return rule.tells(MOVES, this, spot == 0 ? PLACES : spot - 1, 0);
        }

        final void learn(Text rule) {
            for (int spot = 0; spot < SPOTS; spot++) {
                moves[spot] = movesTo(rule, spot);
                ugly[spot] = spot == 0 ? 0 : rule.tells(UGLY, this, spot - 1, 0);
                barred[spot] = spot == 0 || stands(spot - 1) ? 0 : TOO_MUCH;
            }
            for (int n = 0; n <= GUESTS; n++) {
                minds[n] = rule.tells(MINDS, this, 0, n);
            }
            for (int seers = 0; seers < SETS; seers++) {
                offences[seers] = offenceTo(seers);
            }
            lack = missed();
        }

        final boolean isBarred(int spot) {
            return barred[spot] != 0;
        }

        private int offenceTo(int seers) {
            int times = 0;
            for (int g = 0; g < GUESTS; g++) {
                times += g != giver && hasBit(seers, g) ? offends(g) : 0;
            }
            return times;
        }

        final boolean isMissed(int guests, int viewers) {
            return lack > 0 && (guests & ~viewers & 1 << giver) != 0;
        }

        final boolean isOffending(int guests, int viewers) {
            return offences[guests & viewers] > 0;
        }

        /** What it adds to a BAD DAY beside being ugly. */
        final int harm(int guests, int viewers) {
            int times = offences[guests & viewers] + (isMissed(guests, viewers) ? lack : 0);
            return times * minds[Integer.bitCount(guests)];
        }

        final int bad(int spot, int guests, int viewers) {
            return harm(guests, viewers) + ugly[spot];
        }

        /** What it costs that it isn't there any more, though its GIVER looks for it. */
        final int lackFor(int guests) {
            return hasBit(guests, giver) ? lack * minds[Integer.bitCount(guests)] : 0;
        }

        final void priceNothing(boolean isThere) {
            for (int spot = 0; spot < SPOTS; spot++) {
                price[spot] = isThere || spot == 0 ? barred[spot] : TOO_MUCH;
            }
        }

        final void priceMoves(int from) {
            for (int spot = 0; spot < SPOTS; spot++) {
                if (spot != from + 1) {
                    price[spot] += moves[spot];
                }
            }
        }

        final void priceDay(int guests, int[] viewers) {
            for (int spot = 0; spot < SPOTS; spot++) {
                price[spot] += harm(guests, viewers[spot]) + ugly[spot];
            }
        }
    }

    private static class Picture extends Thing {
        Picture(int kind, int index, int what, int giver) {
            super(kind, index, what, giver);
        }

        @Override
        boolean stands(int p) {
            return p % 2 == 0;
        }
    }

    private static class Clock extends Thing {
        Clock(int kind, int index, int what, int giver) {
            super(kind, index, what, giver);
        }

        @Override
        boolean stands(int p) {
            return p < 4;
        }

        @Override
        int missed() {
            return super.missed() + 1;
        }

        @Override
        int offends(int x) {
            return x == number % 4 ? 1 : super.offends(x);
        }
    }

    private static final class Portrait extends Picture {
        Portrait(int kind, int index, int what, int giver) {
            super(kind, index, what, giver);
        }

        @Override
        boolean stands(int p) {
            return p != 0 && super.stands(p);
        }

        @Override
        int missed() {
            return 2 * super.missed();
        }

        @Override
        int offends(int x) {
            return x < giver ? 1 : super.offends(x);
        }
    }

    private static final class Vase extends Clock {
        Vase(int kind, int index, int what, int giver) {
            super(kind, index, what, giver);
        }

        @Override
        int missed() {
            return super.missed() + number / 4;
        }

        @Override
        int offends(int x) {
            return 2 * super.offends(x);
        }
    }

    private static final class Broken extends Thing {
        Broken(int kind, int index, int what, int giver) {
            super(kind, index, what, giver);
        }

        @Override
        int missed() {
            return 0;
        }

        @Override
        int offends(int x) {
            return 1;
        }
    }

    /** All that AN IMAGE keeps: the house of now is one, THE IMAGE another. */
    private static final class House {
        final int[] sight = new int[PLACES];
        final int[] seats = new int[GUESTS];
        final int[] days = new int[DAYS];
        final Thing[] things = new Thing[THINGS];
        int count = 0;
        int rule = 0;

        House() {
            Arrays.fill(sight, SETS - 1);
            for (int g = 0; g < GUESTS; g++) {
                seats[g] = g;
            }
            // Cells that stand for no THING yet, so that no item is ever null.
            for (int t = 0; t < THINGS; t++) {
                things[t] = new Thing(0, t, 0, 0);
            }
        }

        boolean has(int thing) {
            return isBelow(thing, count);
        }

        boolean isTaken(int place) {
            for (int t = 0; t < count; t++) {
                if (things[t].place == place) {
                    return true;
                }
            }
            return false;
        }

        int howManyArePut() {
            int n = 0;
            for (int t = 0; t < count; t++) {
                if (things[t].place != NONE) {
                    n++;
                }
            }
            return n;
        }

        /** KINDS need not be taken: the THINGS of THE IMAGE are still the first ones of the house. */
        void take(House other) {
            System.arraycopy(other.sight, 0, sight, 0, PLACES);
            System.arraycopy(other.seats, 0, seats, 0, GUESTS);
            System.arraycopy(other.days, 0, days, 0, DAYS);
            count = other.count;
            rule = other.rule;
            for (int t = 0; t < count; t++) {
                things[t].take(other.things[t]);
            }
        }
    }

    // ---- TEXTS

    /** A TEXT that was read: its three parts, each with what joins two values behind these. */
    private static final class Text {
        private final int[] code;
        private final int[] starts;
        private final int[] stack;
        private int top = 0;

        Text(int[] code, int size, int[] starts) {
            this.code = Arrays.copyOf(code, size);
            this.starts = Arrays.copyOf(starts, PARTS);
            this.stack = new int[size];
        }

        /** What a part tells of a THING, between the bounds. */
        int tells(int part, Thing x, int place, int guests) {
            top = 0;
            for (int i = starts[part]; i < code.length && code[i] != END_OF_PART; i++) {
                int c = code[i];
                if (c >= 0) {
                    push(c);
                } else if (c >= IS_NUMBER) {
                    push(named(c, x, place, guests));
                } else if (c == NEGATED) {
                    push(-pop());
                } else if (c == NOT) {
                    push(pop() == 0 ? 1 : 0);
                } else {
                    int b = pop();
                    int a = pop();
                    push(joined(c, a, b));
                }
            }
            return Math.max(0, Math.min(BOUND, pop()));
        }

        private void push(int v) {
            if (top < stack.length) {
                stack[top] = v;
                top++;
            }
        }

        private int pop() {
            if (top == 0) {
                return 0;
            }
            top--;
            return stack[top];
        }

        private static int named(int name, Thing x, int place, int guests) {
            switch (name) {
                case IS_THING:
                    return x.index;
                case IS_PLACE:
                    return place;
                case IS_GIVER:
                    return x.giver;
                case IS_GUESTS:
                    return guests;
                case IS_LOOK:
                    return x.look;
                default:
                    return x.number;
            }
        }

        private static int joined(int c, int a, int b) {
            switch (c) {
                case OR:
                    return a != 0 || b != 0 ? 1 : 0;
                case AND:
                    return a != 0 && b != 0 ? 1 : 0;
                case LESS:
                    return a < b ? 1 : 0;
                case LIKE:
                    return a == b ? 1 : 0;
                case PLUS:
                    return a + b;
                case MINUS:
                    return a - b;
                default:
                    return a * b;
            }
        }
    }

    /**
     * Reads a TEXT. By a FAULT its TOKEN becomes WRONG and stays so: nothing takes it, so all that
     * is open ends by itself.
     */
    private static final class Reader {
        private int[] bytes = new int[0];
        private int size = 0;
        private int at = 0;
        private int start = 0;
        private int token = WRONG;
        private int value = 0;
        private int fault = NONE;
        private final int[] code = new int[TAPE];
        private int length = 0;
        private final int[] starts = new int[PARTS];

        /** The place of the FAULT, or NONE. */
        int read(int[] tape, int n) {
            bytes = tape;
            size = n;
            at = 0;
            length = 0;
            fault = NONE;
            advance();
            for (int part = 0; part < PARTS; part++) {
                expect(KEY - part);
                starts[part] = length;
                either(0);
                emit(END_OF_PART);
                expect(END_OF_PART);
            }
            expect(END_OF_TAPE);
            return fault;
        }

        Text made() {
            return new Text(code, length, starts);
        }

        private void either(int open) {
            both(open);
            for (int i = 0; i < TAPE && token == OR; i++) {
                advance();
                both(open);
                emit(OR);
            }
        }

        private void both(int open) {
            negation(open);
            for (int i = 0; i < TAPE && token == AND; i++) {
                advance();
                negation(open);
                emit(AND);
            }
        }

        private void negation(int open) {
            if (token != NOT) {
                comparison(open);
            } else if (open >= DEEPEST) {
                fail();
            } else {
                advance();
                negation(open + 1);
                emit(NOT);
            }
        }

        private void comparison(int open) {
            sum(open);
            if (token == LESS || token == LIKE) {
                int sign = token;
                advance();
                sum(open);
                emit(sign);
            }
        }

        private void sum(int open) {
            term(open);
            for (int i = 0; i < TAPE && (token == PLUS || token == MINUS); i++) {
                int sign = token;
                advance();
                term(open);
                emit(sign);
            }
        }

        private void term(int open) {
            one(open);
            for (int i = 0; i < TAPE && token == TIMES; i++) {
                advance();
                one(open);
                emit(TIMES);
            }
        }

        private void one(int open) {
            if (token == DIGITS) {
                emit(value);
                advance();
            } else if (token <= IS_THING && token >= IS_NUMBER) {
                emit(token);
                advance();
            } else if (token == MINUS && open < DEEPEST) {
                advance();
                one(open + 1);
                emit(NEGATED);
            } else if (token == OPENS && open < DEEPEST) {
                advance();
                either(open + 1);
                expect(CLOSES);
            } else {
                fail();
            }
        }

        private void emit(int c) {
            if (length < code.length) {
                code[length] = c;
                length++;
            }
        }

        private void expect(int wanted) {
            if (token == wanted) {
                advance();
            } else {
                fail();
            }
        }

        private void fail() {
            if (fault == NONE) {
                fault = start;
            }
            token = WRONG;
        }

        private void advance() {
            if (fault != NONE) {
                return;
            }
            while (at < size && (bytes[at] == ' ' || bytes[at] == '\n')) {
                at++;
            }
            start = at;
            if (at >= size) {
                token = END_OF_TAPE;
            } else if (isLetter(bytes[at])) {
                token = word();
            } else if (isDigit(bytes[at])) {
                token = digits();
            } else {
                token = sign(bytes[at]);
                at++;
            }
        }

        private int word() {
            while (at < size && isLetter(bytes[at])) {
                at++;
            }
            int key = key();
            return key == WRONG ? name() : key;
        }

        private int key() {
            return spells("moves") ? KEY - MOVES
                    : spells("ugly") ? KEY - UGLY
                    : spells("minds") ? KEY - MINDS
                    : spells("or") ? OR
                    : spells("and") ? AND
                    : spells("not") ? NOT
                    : WRONG;
        }

        private int name() {
            return spells("thing") ? IS_THING
                    : spells("place") ? IS_PLACE
                    : spells("giver") ? IS_GIVER
                    : spells("guests") ? IS_GUESTS
                    : spells("look") ? IS_LOOK
                    : spells("number") ? IS_NUMBER
                    : WRONG;
        }

        private boolean spells(String word) {
            if (word.length() != at - start) {
                return false;
            }
            for (int i = 0; i < word.length(); i++) {
                if (word.charAt(i) != bytes[start + i]) {
                    return false;
                }
            }
            return true;
        }

        private int digits() {
            value = 0;
            while (at < size && isDigit(bytes[at])) {
                value = value * DIGIT + bytes[at] - '0';
                at++;
            }
            return at - start > LONGEST ? WRONG : DIGITS;
        }

        private static int sign(int b) {
            switch (b) {
                case '(':
                    return OPENS;
                case ')':
                    return CLOSES;
                case ';':
                    return END_OF_PART;
                case '+':
                    return PLUS;
                case '-':
                    return MINUS;
                case '*':
                    return TIMES;
                case '<':
                    return LESS;
                case '=':
                    return LIKE;
                default:
                    return WRONG;
            }
        }

        private static boolean isLetter(int b) {
            return b >= 'a' && b <= 'z';
        }

        private static boolean isDigit(int b) {
            return b >= '0' && b <= '9';
        }
    }

    // ---- SHEETS

    /** A row of numbers; its cells are made once, and its sort tells how wide they count. */
    private static final class Sheet {
        int sort = NONE;
        int size = 0;
        final int[] cells = new int[CELLS];

        void become(int newSort, int newSize) {
            sort = newSort;
            size = newSize;
            Arrays.fill(cells, 0);
        }

        int narrowed(int v) {
            return sort == 0 ? (byte) v : sort == 1 ? (short) v : v;
        }

        /** Whether n items from i on are inside. */
        boolean holds(int i, int n) {
            return n >= 0 && n <= size && i >= 0 && i <= size - n;
        }
    }

    // ---- ROOMS

    /** Finds ROOMS. It works on its own rows, so that seats and days can be tried without harm. */
    private static final class Planner {
        private Thing[] things = new Thing[0];
        private int count = 0;
        private int absent = NONE;
        private final int[] sight = new int[PLACES];
        private final int[] seats = new int[GUESTS];
        private final int[] days = new int[DAYS];
        private final int[] viewers = new int[SPOTS];
        private final int[] room = new int[THINGS];
        final int[] found = new int[THINGS];
        int movedThings = 0;
        int movedDays = 0;

        /**
         * Of a THING, by how many may still be PUT otherwise and by the PLACES (bits) that others
         * ahead of it have: what it and all behind it cost at least.
         */
        private final int[][] least = new int[THINGS + 1][THINGS * USES];

        void start(House house, Text rule) {
            things = house.things;
            count = house.count;
            absent = NONE;
            System.arraycopy(house.sight, 0, sight, 0, PLACES);
            System.arraycopy(house.seats, 0, seats, 0, GUESTS);
            System.arraycopy(house.days, 0, days, 0, DAYS);
            lookAround();
            for (int t = 0; t < count; t++) {
                things[t].learn(rule);
            }
            enterNow();
        }

        void sits(int guest, int seat) {
            seats[guest] = seat;
            lookAround();
        }

        private void lookAround() {
            for (int p = 0; p < PLACES; p++) {
                viewers[p + 1] = viewersOf(sight[p], seats);
            }
        }

        private void enterNow() {
            for (int t = 0; t < count; t++) {
                room[t] = t == absent ? NONE : things[t].place;
            }
        }

        /** Whether what was seen is a ROOM. */
        boolean enters(int[] cells) {
            int used = 0;
            for (int t = 0; t < count; t++) {
                room[t] = isBelow(cells[t], PLACES) ? cells[t] : NONE;
                int bit = bitOf(room[t] + 1);
                if ((used & bit) != 0 || things[t].isBarred(room[t] + 1)) {
                    return false;
                }
                used |= bit;
            }
            return true;
        }

        int badDay(int guests) {
            int sum = 0;
            for (int t = 0; t < count; t++) {
                int spot = room[t] + 1;
                sum += things[t].bad(spot, guests, viewers[spot]);
            }
            return sum;
        }

        /** THINGS (bits) that are MISSED (1), that OFFEND (2), that are SAFE (3). */
        int thingsThat(int guests, int what) {
            int bits = 0;
            for (int t = 0; t < count; t++) {
                int by = viewers[room[t] + 1];
                boolean holds = what == 1 ? things[t].isMissed(guests, by)
                        : what == 2 ? things[t].isOffending(guests, by)
                        : things[t].harm(guests, by) == 0;
                if (holds) {
                    bits |= 1 << t;
                }
            }
            return bits;
        }

        int surprised() {
            int bits = 0;
            for (int t = 0; t < count; t++) {
                int giver = 1 << things[t].giver;
                if (things[t].isMissed(giver, viewers[room[t] + 1])) {
                    bits |= giver;
                }
            }
            return bits;
        }

        /** The sets of GUESTS, a bit each. */
        int expected() {
            int sets = 0;
            for (int guests = 0; guests < SETS; guests++) {
                priceNothing();
                priceDay(guests);
                if (badDay(guests) == search(THINGS)) {
                    sets |= 1 << guests;
                }
            }
            return sets;
        }

        int bestFor(int guests, int n) {
            priceNothing();
            priceMoves();
            priceDay(guests);
            return search(n);
        }

        int onceCost() {
            enterNow();
            priceNothing();
            priceMoves();
            for (int d = 0; d < DAYS; d++) {
                priceDay(days[d]);
            }
            return search(THINGS);
        }

        int weekCost() {
            enterNow();
            movedThings = 0;
            movedDays = 0;
            int cost = 0;
            for (int d = 0; d < DAYS; d++) {
                cost += bestFor(days[d], THINGS);
                int moved = enterFound();
                movedThings += moved;
                movedDays += moved > 0 ? 1 : 0;
            }
            return cost;
        }

        void leaveOut(int[] allDays, int guest) {
            for (int d = 0; d < DAYS; d++) {
                days[d] = allDays[d] & ~(1 << guest);
            }
        }

        void giveAway(int t) {
            absent = t;
        }

        int lackOf(int t) {
            int cost = 0;
            for (int d = 0; d < DAYS; d++) {
                cost += things[t].lackFor(days[d]);
            }
            return cost;
        }

        void draw(int seed) {
            int z = seed;
            for (int d = 0; d < DAYS; d++) {
                z = z * 1103515245 + 12345;
                days[d] = (z >>> 9) % SETS;
            }
        }

        /** How many THINGS are PUT otherwise by it. */
        private int enterFound() {
            int moved = 0;
            for (int t = 0; t < count; t++) {
                if (room[t] != found[t]) {
                    moved++;
                }
                room[t] = found[t];
            }
            return moved;
        }

        private void priceNothing() {
            for (int t = 0; t < count; t++) {
                things[t].priceNothing(t != absent);
            }
        }

        private void priceMoves() {
            for (int t = 0; t < count; t++) {
                if (t != absent) {
                    things[t].priceMoves(room[t]);
                }
            }
        }

        private void priceDay(int guests) {
            for (int t = 0; t < count; t++) {
                if (t != absent) {
                    things[t].priceDay(guests, viewers);
                }
            }
        }

        /** Finds the first ROOM that costs least by the prices, at most n THINGS PUT otherwise. */
        private int search(int n) {
            // If all may be PUT otherwise, those that are need not be counted.
            boolean counted = n < count;
            int left = counted ? n : 0;
            Arrays.fill(least[count], 0);
            for (int t = count - 1; t >= 0; t--) {
                for (int l = 0; l <= left; l++) {
                    fillLeast(t, l, counted);
                }
            }
            follow(left, counted);
            return least[0][left * USES];
        }

        private void fillLeast(int t, int left, boolean counted) {
            for (int used = 0; used < USES; used++) {
                // The THINGS ahead can't have more PLACES than they are.
                if (Integer.bitCount(used) <= t) {
                    int cost = TOO_MUCH;
                    for (int spot = 0; spot < SPOTS; spot++) {
                        cost = Math.min(cost, costFrom(t, spot, left, used, counted));
                    }
                    least[t][left * USES + used] = cost;
                }
            }
        }

        private void follow(int allowed, boolean counted) {
            int left = allowed;
            int used = 0;
            for (int t = 0; t < count; t++) {
                int due = least[t][left * USES + used];
                int spot = 0;
                while (spot < SPOTS - 1 && costFrom(t, spot, left, used, counted) != due) {
                    spot++;
                }
                found[t] = spot - 1;
                left -= counted && found[t] != room[t] ? 1 : 0;
                used |= bitOf(spot);
            }
        }

        /** What THING t on a spot and all behind it cost at least. */
        private int costFrom(int t, int spot, int left, int used, boolean counted) {
            int rest = counted && spot - 1 != room[t] ? left - 1 : left;
            int bit = bitOf(spot);
            if (rest < 0 || (used & bit) != 0) {
                return TOO_MUCH;
            }
            return things[t].price[spot] + least[t + 1][rest * USES + (used | bit)];
        }

        private static int bitOf(int spot) {
            return 1 << spot >> 1;
        }
    }
}
