import java.util.ArrayList;
import java.util.Arrays;
import java.util.List;

/**
 * The document once more, in another way and without any thrift: every ROOM is listed, every cost is
 * read from the text anew. RandomRunsTest holds PutOut against it.
 */
final class Plain {
    static final int NONE = -1, BAD = -2, STATE = -3, FULL = -4;
    static final long NO = -4611686018427387904L;

    private static final class Item {
        int kind, number, giver, look, place = NONE;
    }

    private static final class Snapshot {
        int[] sight, seats, days;
        List<int[]> items = new ArrayList<>();
        int rule;
    }

    private static final class Fault extends RuntimeException {
        private static final long serialVersionUID = 1L;
        final int place;

        Fault(int place) {
            super(null, null, false, false);
            this.place = place;
        }
    }

    private interface Node {
        int value(int[] names);
    }

    private int[] sight = {15, 15, 15, 15, 15, 15};
    private int[] seats = {0, 1, 2, 3};
    private int[] days = new int[7];
    private final List<Item> items = new ArrayList<>();
    private final StringBuilder tape = new StringBuilder();
    private final List<Node[]> texts = new ArrayList<>();
    private int rule = 0;
    private Snapshot kept = null;
    private final Object[] sheets = new Object[4];

    Plain() {
        texts.add(new Parser("moves 1 ; ugly 9 - look ; minds 20 ;").parse());
    }

    // ---- KINDS, by the table

    private static final int[] ABOVE = {-1, 0, 0, 1, 2, 0};

    private static boolean stands(int kind, int p) {
        return switch (kind) {
            case 1 -> p == 0 || p == 2 || p == 4;
            case 2, 4 -> p <= 3;
            case 3 -> p == 2 || p == 4;
            default -> true;
        };
    }

    private static int missed(Item x) {
        return switch (x.kind) {
            case 2, 3 -> 2;
            case 4 -> 2 + x.number / 4;
            case 5 -> 0;
            default -> 1;
        };
    }

    private static int offends(Item x, int guest) {
        return switch (x.kind) {
            case 2 -> guest == x.number % 4 ? 1 : 0;
            case 3 -> guest < x.giver ? 1 : 0;
            case 4 -> guest == x.number % 4 ? 2 : 0;
            case 5 -> 1;
            default -> 0;
        };
    }

    // ---- texts

    private record Token(String text, int place) { }

    private static final class Parser {
        private final List<Token> tokens = new ArrayList<>();
        private int next = 0;
        private int open = 0;

        Parser(String s) {
            int i = 0;
            while (i < s.length()) {
                char c = s.charAt(i);
                int j = i + 1;
                if (c == ' ' || c == '\n') {
                    i++;
                    continue;
                }
                if (c >= 'a' && c <= 'z') {
                    while (j < s.length() && s.charAt(j) >= 'a' && s.charAt(j) <= 'z') {
                        j++;
                    }
                } else if (c >= '0' && c <= '9') {
                    while (j < s.length() && s.charAt(j) >= '0' && s.charAt(j) <= '9') {
                        j++;
                    }
                }
                tokens.add(new Token(s.substring(i, j), i));
                i = j;
            }
            tokens.add(new Token("", s.length()));
        }

        Node[] parse() {
            Node[] parts = new Node[3];
            String[] keys = {"moves", "ugly", "minds"};
            for (int i = 0; i < 3; i++) {
                want(keys[i]);
                parts[i] = e();
                want(";");
            }
            want("");
            return parts;
        }

        private String peek() {
            return tokens.get(next).text();
        }

        private RuntimeException fault() {
            return new Fault(tokens.get(next).place());
        }

        private boolean take(String text) {
            if (peek().equals(text)) {
                next++;
                return true;
            }
            return false;
        }

        private void want(String text) {
            if (!take(text)) {
                throw fault();
            }
        }

        private void deeper() {
            if (open == 5) {
                throw fault();
            }
            open++;
            next++;
        }

        private Node e() {
            Node left = and();
            while (take("or")) {
                Node a = left;
                Node b = and();
                left = n -> (a.value(n) != 0 | b.value(n) != 0) ? 1 : 0;
            }
            return left;
        }

        private Node and() {
            Node left = not();
            while (take("and")) {
                Node a = left;
                Node b = not();
                left = n -> (a.value(n) != 0 & b.value(n) != 0) ? 1 : 0;
            }
            return left;
        }

        private Node not() {
            if (peek().equals("not")) {
                deeper();
                Node a = not();
                open--;
                return n -> a.value(n) == 0 ? 1 : 0;
            }
            Node a = sum();
            if (take("<")) {
                Node b = sum();
                return n -> a.value(n) < b.value(n) ? 1 : 0;
            }
            if (take("=")) {
                Node b = sum();
                return n -> a.value(n) == b.value(n) ? 1 : 0;
            }
            return a;
        }

        private Node sum() {
            Node left = term();
            while (peek().equals("+") || peek().equals("-")) {
                int way = take("+") ? 1 : -1;
                if (way < 0) {
                    next++;
                }
                Node a = left;
                Node b = term();
                left = n -> a.value(n) + way * b.value(n);
            }
            return left;
        }

        private Node term() {
            Node left = one();
            while (take("*")) {
                Node a = left;
                Node b = one();
                left = n -> a.value(n) * b.value(n);
            }
            return left;
        }

        private Node one() {
            String t = peek();
            if (t.matches("[0-9]{1,4}")) {
                next++;
                int v = Integer.parseInt(t);
                return n -> v;
            }
            int name = Arrays.asList("thing", "place", "giver", "guests", "look", "number").indexOf(t);
            if (name >= 0) {
                next++;
                return n -> n[name];
            }
            if (t.equals("-")) {
                deeper();
                Node a = one();
                open--;
                return n -> -a.value(n);
            }
            if (t.equals("(")) {
                deeper();
                Node a = e();
                want(")");
                open--;
                return a;
            }
            throw fault();
        }
    }

    private int tells(int part, int thing, int place, int guests) {
        Item x = items.get(thing);
        int v = texts.get(rule)[part].value(new int[] {thing, place, x.giver, guests, x.look, x.number});
        return v < 0 ? 0 : v > 99 ? 99 : v;
    }

    private int moves(int thing, int place) {
        return tells(0, thing, place == NONE ? 6 : place, 0);
    }

    // ---- rooms

    private int[] now() {
        int[] room = new int[items.size()];
        for (int t = 0; t < room.length; t++) {
            room[t] = items.get(t).place;
        }
        return room;
    }

    private boolean isRoom(int[] room) {
        for (int t = 0; t < room.length; t++) {
            if (room[t] == NONE) {
                continue;
            }
            if (!stands(items.get(t).kind, room[t])) {
                return false;
            }
            for (int u = 0; u < t; u++) {
                if (room[u] == room[t]) {
                    return false;
                }
            }
        }
        return true;
    }

    /** All ROOMS in their order; a THING that is gone is nowhere in each. */
    private List<int[]> rooms(int gone) {
        List<int[]> all = new ArrayList<>();
        int n = items.size();
        int many = 1;
        for (int t = 0; t < n; t++) {
            many *= 7;
        }
        for (int code = 0; code < many; code++) {
            int[] room = new int[n];
            int rest = code;
            for (int t = n - 1; t >= 0; t--) {
                room[t] = rest % 7 - 1;
                rest /= 7;
            }
            if ((gone == NONE || room[gone] == NONE) && isRoom(room)) {
                all.add(room);
            }
        }
        return all;
    }

    private boolean sees(int guest, int place) {
        return place != NONE && (sight[place] & 1 << seats[guest]) != 0;
    }

    private int misses(int t, int place, int guests) {
        Item x = items.get(t);
        return (guests & 1 << x.giver) != 0 && !sees(x.giver, place) ? missed(x) : 0;
    }

    private int offences(int t, int place, int guests) {
        Item x = items.get(t);
        int sum = 0;
        for (int g = 0; g < 4; g++) {
            if ((guests & 1 << g) != 0 && g != x.giver && sees(g, place)) {
                sum += offends(x, g);
            }
        }
        return sum;
    }

    private int harm(int t, int place, int guests) {
        return tells(2, t, 0, Integer.bitCount(guests)) * (misses(t, place, guests) + offences(t, place, guests));
    }

    private int bad(int t, int place, int guests) {
        return harm(t, place, guests) + (place == NONE ? 0 : tells(1, t, place, 0));
    }

    private int badDay(int[] room, int guests) {
        int sum = 0;
        for (int t = 0; t < room.length; t++) {
            sum += bad(t, room[t], guests);
        }
        return sum;
    }

    private static int otherwise(int[] a, int[] b) {
        int n = 0;
        for (int t = 0; t < a.length; t++) {
            n += a[t] != b[t] ? 1 : 0;
        }
        return n;
    }

    /** A table of what each THING on each PLACE (and nowhere) costs, from a ROOM, for some days. */
    private int[][] table(int[] from, int gone, int... someDays) {
        int[][] table = new int[items.size()][7];
        for (int t = 0; t < table.length; t++) {
            for (int p = NONE; p < 6 && t != gone; p++) {
                int sum = from != null && from[t] != p ? moves(t, p) : 0;
                for (int guests : someDays) {
                    sum += bad(t, p, guests);
                }
                table[t][p + 1] = sum;
            }
        }
        return table;
    }

    private static int cost(int[][] table, int[] room) {
        int sum = 0;
        for (int t = 0; t < room.length; t++) {
            sum += table[t][room[t] + 1];
        }
        return sum;
    }

    private static int[] first(List<int[]> rooms, int[][] table, int[] from, int n) {
        int[] best = null;
        for (int[] room : rooms) {
            if ((n >= 5 || otherwise(from, room) <= n) && (best == null || cost(table, room) < cost(table, best))) {
                best = room;
            }
        }
        return best;
    }

    private int[] bestRoom(List<int[]> rooms, int[] from, int gone, int guests, int n) {
        return first(rooms, table(from, gone, guests), from, n);
    }

    private int[] weekOf(int[] someDays, int gone) {
        List<int[]> rooms = rooms(gone);
        int[] from = now();
        if (gone != NONE) {
            from[gone] = NONE;
        }
        int[] answer = new int[3];
        for (int guests : someDays) {
            int[] to = bestRoom(rooms, from, gone, guests, 5);
            answer[0] += cost(table(from, gone, guests), to);
            int moved = otherwise(from, to);
            answer[1] += moved;
            answer[2] += moved > 0 ? 1 : 0;
            from = to;
        }
        return answer;
    }

    private int[] onceRoom(int[] someDays) {
        return first(rooms(NONE), table(now(), NONE, someDays), now(), 5);
    }

    private static int[] draw(int seed) {
        int[] drawn = new int[7];
        int z = seed;
        for (int d = 0; d < 7; d++) {
            z = z * 1103515245 + 12345;
            drawn[d] = (z >>> 9) % 16;
        }
        return drawn;
    }

    private static boolean in(int v, int from, int to) {
        return v >= from && v <= to;
    }

    private boolean isThing(int t) {
        return in(t, 0, items.size() - 1);
    }

    // ---- the calls

    int set(int what, int of, int v) {
        int was;
        if (what == 0 && in(of, 0, 5) && in(v, 0, 15)) {
            was = sight[of];
            sight[of] = v;
        } else if (what == 1 && in(of, 0, 3) && in(v, 0, 3)) {
            was = seats[of];
            seats[of] = v;
        } else if (what == 2 && in(of, 0, 6) && in(v, 0, 15)) {
            was = days[of];
            days[of] = v;
        } else if (what == 3 && isThing(of) && in(v, 0, 9)) {
            was = items.get(of).number;
            items.get(of).number = v;
        } else if (what == 4 && isThing(of) && in(v, 0, 3)) {
            was = items.get(of).giver;
            items.get(of).giver = v;
        } else if (what == 5 && isThing(of) && in(v, 0, 9)) {
            was = items.get(of).look;
            items.get(of).look = v;
        } else {
            was = BAD;
        }
        return was;
    }

    int thing(int kind, int what, int giver) {
        if (!in(kind, 0, 5) || !in(what, 0, 99) || !in(giver, 0, 3)) {
            return BAD;
        }
        if (items.size() == 5) {
            return FULL;
        }
        Item x = new Item();
        x.kind = kind;
        x.number = what / 10;
        x.look = what % 10;
        x.giver = giver;
        items.add(x);
        return items.size() - 1;
    }

    int put(int thing, int place) {
        if (!isThing(thing) || !in(place, NONE, 5)) {
            return BAD;
        }
        int[] room = now();
        if (room[thing] == place) {
            return 0;
        }
        room[thing] = place;
        if (!isRoom(room)) {
            return STATE;
        }
        items.get(thing).place = place;
        return moves(thing, place);
    }

    int told(int thing, int what) {
        if (!isThing(thing) || !in(what, 0, 11)) {
            return -100;
        }
        Item x = items.get(thing);
        int who = 0;
        for (int g = 0; g < 4; g++) {
            who += sees(g, x.place) ? 1 << g : 0;
        }
        int[] first = {x.kind, x.number, x.giver, x.look, x.place, who};
        return what < 6 ? first[what] : stands(x.kind, what - 6) ? 1 : 0;
    }

    int feed(int letter) {
        if (!in(letter, 0, 255)) {
            return BAD;
        }
        if (tape.length() == 160) {
            return FULL;
        }
        tape.append((char) letter);
        return tape.length();
    }

    int text() {
        if (texts.size() == 6) {
            return FULL;
        }
        String s = tape.toString();
        tape.setLength(0);
        try {
            texts.add(new Parser(s).parse());
        } catch (Fault f) {
            return -100 - f.place;
        }
        return texts.size() - 1;
    }

    int force(int text) {
        if (!in(text, 0, texts.size() - 1)) {
            return BAD;
        }
        int was = rule;
        rule = text;
        return was;
    }

    int day(int guests, int what) {
        if (!in(guests, 0, 15) || !in(what, 0, 3)) {
            return BAD;
        }
        int[] room = now();
        if (what == 0) {
            return badDay(room, guests);
        }
        int bits = 0;
        for (int t = 0; t < room.length; t++) {
            boolean yes = what == 1 ? misses(t, room[t], guests) > 0
                    : what == 2 ? offences(t, room[t], guests) > 0 : harm(t, room[t], guests) == 0;
            bits += yes ? 1 << t : 0;
        }
        return bits;
    }

    int best(int guests, int n, int what) {
        if (!in(guests, 0, 15) || !in(n, 0, 5) || what != NONE && !isThing(what)) {
            return -100;
        }
        int[] room = bestRoom(rooms(NONE), now(), NONE, guests, n);
        return what == NONE ? cost(table(now(), NONE, guests), room) : room[what];
    }

    int tidy(int guests) {
        if (!in(guests, 0, 15)) {
            return BAD;
        }
        int[] room = bestRoom(rooms(NONE), now(), NONE, guests, 5);
        int cost = cost(table(now(), NONE, guests), room);
        for (int t = 0; t < room.length; t++) {
            items.get(t).place = room[t];
        }
        return cost;
    }

    int once(int what) {
        if (what != NONE && !isThing(what)) {
            return -100;
        }
        int[] room = onceRoom(days);
        return what == NONE ? cost(table(now(), NONE, days), room) : room[what];
    }

    int week(int what) {
        return in(what, 0, 2) ? weekOf(days, NONE)[what] : BAD;
    }

    int dearest(int what) {
        if (!in(what, 0, 1)) {
            return BAD;
        }
        int[] costs = new int[4];
        int who = 0;
        for (int g = 0; g < 4; g++) {
            int[] less = days.clone();
            for (int d = 0; d < 7; d++) {
                less[d] &= 15 - (1 << g);
            }
            costs[g] = weekOf(less, NONE)[0];
            who = costs[g] < costs[who] ? g : who;
        }
        return what == 0 ? who : costs[who];
    }

    int give() {
        int least = weekOf(days, NONE)[0];
        int which = NONE;
        for (int t = 0; t < items.size(); t++) {
            int cost = weekOf(days, t)[0];
            for (int guests : days) {
                cost += (guests & 1 << items.get(t).giver) != 0
                        ? tells(2, t, 0, Integer.bitCount(guests)) * missed(items.get(t)) : 0;
            }
            if (cost < least) {
                least = cost;
                which = t;
            }
        }
        return which;
    }

    int seat(int guest, int day) {
        if (!in(guest, 0, 3) || !in(day, 0, 6)) {
            return BAD;
        }
        int was = seats[guest];
        int[] costs = new int[4];
        int where = 0;
        for (int s = 0; s < 4; s++) {
            seats[guest] = s;
            costs[s] = badDay(now(), days[day]);
            where = costs[s] < costs[where] ? s : where;
        }
        seats[guest] = was;
        return where;
    }

    private static int size(Object row) {
        return java.lang.reflect.Array.getLength(row);
    }

    private static int item(Object row, int i) {
        return ((Number) java.lang.reflect.Array.get(row, i)).intValue();
    }

    int seen(int sheet, int what) {
        if (!in(sheet, 0, 3) || !in(what, 0, 2)) {
            return BAD;
        }
        Object row = sheets[sheet];
        if (row == null) {
            return -11;
        }
        if (size(row) != items.size()) {
            return BAD;
        }
        int[] room = new int[items.size()];
        for (int t = 0; t < room.length; t++) {
            room[t] = in(item(row, t), 0, 5) ? item(row, t) : NONE;
        }
        if (!isRoom(room)) {
            return STATE;
        }
        if (what == 2) {
            int who = 0;
            for (int t = 0; t < room.length; t++) {
                for (int g = 0; g < 4; g++) {
                    who |= misses(t, room[t], 1 << g) > 0 ? 1 << g : 0;
                }
            }
            return who;
        }
        int many = 0;
        int least = NONE;
        List<int[]> rooms = rooms(NONE);
        for (int guests = 0; guests < 16; guests++) {
            int[][] table = table(null, NONE, guests);
            if (cost(table, room) == cost(table, first(rooms, table, room, 5))) {
                many++;
                least = least == NONE ? guests : least;
            }
        }
        return what == 0 ? many : least;
    }

    int film(int sheet, int guests) {
        if (!in(sheet, 0, 3) || !in(guests, 0, 15)) {
            return BAD;
        }
        int[] room = bestRoom(rooms(NONE), now(), NONE, guests, 5);
        byte[] row = new byte[room.length];
        for (int t = 0; t < room.length; t++) {
            row[t] = (byte) room[t];
        }
        sheets[sheet] = row;
        return room.length;
    }

    int drawn(int seed) {
        return weekOf(draw(seed), NONE)[0];
    }

    long chance(int seed, int n, int part) {
        if (!in(n, 1, 10) || !in(part, 0, 1)) {
            return NO;
        }
        int above = 0;
        for (int i = 0; i < n; i++) {
            int[] some = draw(seed + i);
            above += cost(table(now(), NONE, some), onceRoom(some)) <= weekOf(some, NONE)[0] ? 1 : 0;
        }
        int common = java.math.BigInteger.valueOf(above).gcd(java.math.BigInteger.valueOf(n)).intValue();
        return part == 0 ? above / common : n / common;
    }

    int image() {
        kept = new Snapshot();
        kept.sight = sight.clone();
        kept.seats = seats.clone();
        kept.days = days.clone();
        kept.rule = rule;
        for (Item x : items) {
            kept.items.add(new int[] {x.number, x.giver, x.look, x.place});
        }
        return items.size();
    }

    int back() {
        if (kept == null) {
            return STATE;
        }
        sight = kept.sight.clone();
        seats = kept.seats.clone();
        days = kept.days.clone();
        rule = kept.rule;
        while (items.size() > kept.items.size()) {
            items.remove(items.size() - 1);
        }
        for (int t = 0; t < items.size(); t++) {
            int[] was = kept.items.get(t);
            Item x = items.get(t);
            x.number = was[0];
            x.giver = was[1];
            x.look = was[2];
            x.place = was[3];
        }
        return items.size();
    }

    int count(int what) {
        int put = (int) items.stream().filter(x -> x.place != NONE).count();
        int[] first = {items.size(), put, texts.size(), tape.length(), rule};
        return !in(what, 0, 21) ? BAD : what < 5 ? first[what] : what < 11 ? sight[what - 5]
                : what < 15 ? seats[what - 11] : days[what - 15];
    }

    int sheet(int sheet, int sort, int n) {
        if (!in(sheet, 0, 3) || !in(sort, -1, 2)) {
            return BAD;
        }
        if (sort == -1) {
            sheets[sheet] = null;
            return 1;
        }
        if (n > 40) {
            return BAD;
        }
        if (n < 0) {
            return -14;
        }
        sheets[sheet] = sort == 0 ? new byte[n] : sort == 1 ? new short[n] : new int[n];
        return 1;
    }

    int cell(int sheet, int i, int v) {
        if (!in(sheet, 0, 3)) {
            return BAD;
        }
        if (sheets[sheet] == null) {
            return -11;
        }
        if (!in(i, 0, size(sheets[sheet]) - 1)) {
            return -12;
        }
        if (sheets[sheet] instanceof byte[] b) {
            b[i] = (byte) v;
        } else if (sheets[sheet] instanceof short[] s) {
            s[i] = (short) v;
        } else if (sheets[sheet] instanceof int[] n) {
            n[i] = v;
        }
        return 1;
    }

    int copy(int sheet, int i, int other, int j, int n) {
        if (!in(sheet, 0, 3) || !in(other, 0, 3)) {
            return BAD;
        }
        try {
            System.arraycopy(sheets[sheet], i, sheets[other], j, n);
        } catch (NullPointerException e) {
            return -11;
        } catch (ArrayStoreException e) {
            return -13;
        } catch (IndexOutOfBoundsException e) {
            return -12;
        }
        return n;
    }

    int things(int sheet, int sort, int from, int n) {
        if (!in(sheet, 0, 3) || !in(sort, 0, 2) || !in(n, 0, 5)) {
            return BAD;
        }
        Object row = sheets[sheet];
        if (row == null) {
            return -11;
        }
        if (!(sort == 0 ? row instanceof byte[] : sort == 1 ? row instanceof short[] : row instanceof int[])) {
            return -13;
        }
        int came = 0;
        try {
            for (int i = 0; i < n; i++) {
                int at = from + 3 * i;
                came += thing(item(row, at), item(row, at + 1), item(row, at + 2)) >= 0 ? 1 : 0;
            }
        } catch (ArrayIndexOutOfBoundsException e) {
            return -12;
        }
        return came;
    }

    int taken(int thing, int k) {
        if (!in(k, 0, 5)) {
            return BAD;
        }
        if (!isThing(thing)) {
            return -11;
        }
        for (int kind = items.get(thing).kind; kind >= 0; kind = ABOVE[kind]) {
            if (kind == k) {
                return items.get(thing).number;
            }
        }
        return -13;
    }
}
