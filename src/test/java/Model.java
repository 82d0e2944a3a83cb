import java.math.BigInteger;
import java.util.ArrayDeque;
import java.util.ArrayList;
import java.util.Deque;
import java.util.List;
import java.util.function.IntUnaryOperator;

/**
 * The document once more, told in the plainest way and by other means than LoveParts:
 * every foretelling makes a copy and tries all that there is.
 */
final class Model {
    static final int NONE = -1000000, BAD = -1000001, STATE = -1000002, FULL = -1000003;

    private final int[] lanes = {-1, -1, -1, -1, -1, -1, -1, -1};
    private final int[][] items = new int[8][];
    private final StringBuilder tape = new StringBuilder();
    private Land land = null;
    private final Deque<Land> past = new ArrayDeque<>();
    private final Land[] images = new Land[2];
    private List<Integer> trace = new ArrayList<>();
    private int fault = 0;
    private int status = 0;

    /** One heir, at one time. */
    private static final class One implements Cloneable {
        char sort;
        int love, tongue, said, promised, got, hosted, broken;
        boolean spoken;
        List<Integer> letters = new ArrayList<>();

        One twin() {
            try {
                One o = (One) clone();
                o.letters = new ArrayList<>(letters);
                return o;
            } catch (CloneNotSupportedException e) {
                throw new IllegalStateException(e);
            }
        }
    }

    /** One realm, at one time. */
    private static final class Land {
        int size, knights, shrinks, rule, month, host;
        boolean parted;
        final List<One> ones = new ArrayList<>();

        Land twin() {
            Land l = new Land();
            l.size = size;
            l.knights = knights;
            l.shrinks = shrinks;
            l.rule = rule;
            l.month = month;
            l.host = host;
            l.parted = parted;
            for (One o : ones) {
                l.ones.add(o.twin());
            }
            return l;
        }

        int own(int heir) {
            One o = ones.get(heir);
            int ahead = -1;
            for (int i = 0; i < heir; i++) {
                if (ones.get(i).spoken) {
                    ahead = ones.get(i).said;
                }
            }
            int words = switch (o.sort) {
                case 'p' -> o.love;
                case 's' -> o.love + o.tongue;
                case 'j' -> ahead < 0 ? o.love : ahead + 1;
                case 'q' -> 0;
                default -> 9 - o.love;
            };
            return words > 18 ? 18 : words;
        }

        int says(int heir) {
            return ones.get(heir).spoken ? ones.get(heir).said : own(heir);
        }

        int[] parts(int by) {
            int n = ones.size();
            int[] w = new int[n];
            int all = 0;
            int first = -1;
            for (int i = 0; i < n; i++) {
                w[i] = switch (by) {
                    case 0 -> 1 + says(i);
                    case 1 -> 1 + says(i) + ones.get(i).promised;
                    case 2 -> 1;
                    default -> 1 + 18 - says(i);
                };
                all += w[i];
                first = first < 0 || w[i] > w[first] ? i : first;
            }
            int[] gets = new int[n];
            int given = 0;
            for (int i = 0; i < n; i++) {
                gets[i] = (int) Math.floor(size * w[i] / (double) all + 1e-9);
                given += gets[i];
            }
            gets[first] += size - given;
            return gets;
        }

        int allows(int heir) {
            One o = ones.get(heir);
            int left = o.promised;
            for (int i = 0; i < o.hosted; i++) {
                left = left < shrinks ? 0 : left - shrinks;
            }
            left += o.love;
            for (int told : o.letters) {
                left = told < left ? told : left;
            }
            return left;
        }

        void month() {
            int allows = allows(host);
            One o = ones.get(host);
            knights = allows < knights ? allows : knights;
            o.broken += allows < o.promised ? 1 : 0;
            o.hosted++;
            month++;
            host = (host + 1) % ones.size();
        }

        int broken() {
            return ones.stream().mapToInt(o -> o.broken).sum();
        }
    }

    private static int firstMost(int[] numbers) {
        int at = 0;
        for (int i = 0; i < numbers.length; i++) {
            at = numbers[i] > numbers[at] ? i : at;
        }
        return at;
    }

    private boolean bad(int heir) {
        return land == null || heir < 0 || heir >= land.ones.size();
    }

    private static boolean out(int n, int least, int most) {
        return n < least || n > most;
    }

    private int end(int finding, int answer) {
        status = finding;
        return finding == 0 ? answer : -1000010 - finding;
    }

    private boolean beyond(int row, long i, long n) {
        return i < 0 || n < 0 || i + n > items[row].length;
    }

    int row(int row, int lane, int n) {
        if (out(row, 0, 7) || out(lane, 0, 2) || n > 40) {
            return BAD;
        }
        if (n < 0) {
            return end(4, 0);
        }
        lanes[row] = lane;
        items[row] = new int[n];
        return end(0, n);
    }

    int set(int row, int i, int v) {
        if (out(row, 0, 7)) {
            return BAD;
        }
        if (items[row] == null) {
            return end(1, 0);
        }
        if (beyond(row, i, 1)) {
            return end(2, 0);
        }
        int bits = 8 << lanes[row];
        BigInteger lowest = BigInteger.valueOf(v).mod(BigInteger.ONE.shiftLeft(bits));
        if (lowest.testBit(bits - 1)) {
            lowest = lowest.subtract(BigInteger.ONE.shiftLeft(bits));
        }
        items[row][i] = lowest.intValueExact();
        return end(0, items[row][i]);
    }

    int copy(int a, int i, int b, int j, int n) {
        if (out(a, 0, 7) || out(b, 0, 7)) {
            return BAD;
        }
        if (items[a] == null || items[b] == null) {
            return end(1, 0);
        }
        if (lanes[a] != lanes[b]) {
            return end(5, 0);
        }
        if (beyond(a, i, n) || beyond(b, j, n)) {
            return end(2, 0);
        }
        int[] ahead = items[a].clone();
        for (int k = 0; k < n; k++) {
            items[b][j + k] = ahead[i + k];
        }
        return end(0, n);
    }

    int drop(int row) {
        if (out(row, 0, 7)) {
            return BAD;
        }
        if (items[row] == null) {
            return end(1, 0);
        }
        int n = items[row].length;
        items[row] = null;
        return end(0, n);
    }

    int feed(int letter) {
        if (out(letter, 0, 255)) {
            return BAD;
        }
        if (tape.length() == 100) {
            return FULL;
        }
        tape.append((char) letter);
        return tape.length();
    }

    /** What may stand where, as a list: a letter, a sign, or the bounds of a number. */
    private static String dueAt(int token) {
        String[] law = {"k", "1-99", ",", "0-99", ",", "0-9", ",", "0-3", ";"};
        String[] heir = {"sort", "0-9", ",", "0-9", ";"};
        return token < law.length ? law[token] : heir[(token - law.length) % heir.length];
    }

    private static List<Integer> starts(String text) {
        List<Integer> starts = new ArrayList<>();
        for (int i = 0; i < text.length(); i++) {
            boolean inRun = i > 0 && Character.toString(text.charAt(i)).matches("[0-9]")
                    && Character.toString(text.charAt(i - 1)).matches("[0-9]");
            if (!inRun) {
                starts.add(i);
            }
        }
        return starts;
    }

    private static int faultOf(String token, int number) {
        String due = dueAt(number);
        boolean fifth = number == 9 + 5 * 4;
        if (due.equals("sort")) {
            return !token.matches("[psjqi]") ? 1 : fifth ? 3 : 0;
        }
        if (due.length() == 1) {
            return token.equals(due) ? 0 : 1;
        }
        if (!token.matches("[0-9]{1,2}")) {
            return 1;
        }
        String[] bounds = due.split("-");
        int value = Integer.parseInt(token);
        return out(value, Integer.parseInt(bounds[0]), Integer.parseInt(bounds[1])) ? 2 : 0;
    }

    int realm() {
        String text = tape.toString();
        tape.setLength(0);
        List<Integer> starts = starts(text);
        List<String> tokens = new ArrayList<>();
        for (int t = 0; t < starts.size(); t++) {
            String token = text.substring(starts.get(t), t + 1 < starts.size() ? starts.get(t + 1) : text.length());
            int f = faultOf(token, t);
            if (f != 0) {
                fault = f;
                return -1000100 - starts.get(t);
            }
            tokens.add(token);
        }
        if (tokens.size() < 19 || (tokens.size() - 9) % 5 != 0) {
            fault = 1;
            return -1000100 - text.length();
        }
        land = new Land();
        land.size = Integer.parseInt(tokens.get(1));
        land.knights = Integer.parseInt(tokens.get(3));
        land.shrinks = Integer.parseInt(tokens.get(5));
        land.rule = Integer.parseInt(tokens.get(7));
        for (int t = 9; t < tokens.size(); t += 5) {
            One o = new One();
            o.sort = tokens.get(t).charAt(0);
            o.love = Integer.parseInt(tokens.get(t + 1));
            o.tongue = Integer.parseInt(tokens.get(t + 3));
            land.ones.add(o);
        }
        past.clear();
        return land.ones.size();
    }

    int fault() {
        return fault;
    }

    private void act() {
        past.addLast(land.twin());
        if (past.size() > 24) {
            past.removeFirst();
        }
    }

    int undo() {
        if (past.isEmpty()) {
            return STATE;
        }
        land = past.removeLast();
        return past.size();
    }

    int speak(int heir, int words, int knights) {
        if (bad(heir) || out(words, 0, 18) || out(knights, 0, 40)) {
            return BAD;
        }
        if (land.parted) {
            return STATE;
        }
        act();
        int own = land.own(heir);
        say(land, heir, words, knights);
        return own;
    }

    private static void say(Land in, int heir, int words, int knights) {
        One o = in.ones.get(heir);
        o.spoken = true;
        o.said = words;
        o.promised = knights;
    }

    int part() {
        if (land == null || land.parted) {
            return STATE;
        }
        act();
        int[] gets = land.parts(land.rule);
        for (int i = 0; i < gets.length; i++) {
            land.ones.get(i).got = gets[i];
        }
        land.parted = true;
        return firstMost(gets);
    }

    int rule(int n) {
        if (land == null) {
            return STATE;
        }
        if (out(n, 0, 3)) {
            return BAD;
        }
        if (land.parted) {
            return STATE;
        }
        act();
        int was = land.rule;
        land.rule = n;
        return was;
    }

    int months(int n) {
        if (land == null) {
            return STATE;
        }
        if (out(n, 1, 24)) {
            return BAD;
        }
        if (!land.parted) {
            return STATE;
        }
        if (land.month + n > 999) {
            return FULL;
        }
        for (int i = 0; i < n; i++) {
            act();
            land.month();
        }
        return land.knights;
    }

    int letter(int from, int to) {
        if (bad(from) || bad(to) || from == to) {
            return BAD;
        }
        act();
        land.ones.get(to).letters.add(land.allows(from));
        return land.allows(to);
    }

    int heir(int heir, int what) {
        if (bad(heir) || out(what, 0, 8)) {
            return BAD;
        }
        One o = land.ones.get(heir);
        int[] all = {o.love, o.tongue, o.spoken ? 1 : 0, land.says(heir), o.promised, o.got, land.allows(heir),
            o.hosted, o.broken};
        return all[what];
    }

    int king(int what) {
        if (land == null) {
            return STATE;
        }
        if (out(what, 0, 2)) {
            return BAD;
        }
        return new int[] {land.knights, land.host, land.parted ? 1 : 0}[what];
    }

    int share(int heir, int by) {
        return bad(heir) || out(by, 0, 3) ? BAD : land.parts(by)[heir];
    }

    private int[] bestOf(int heir) {
        int[] best = null;
        for (int words = 0; words <= 18; words++) {
            for (int knights = 0; knights <= 40; knights++) {
                Land l = land.twin();
                say(l, heir, words, knights);
                int gain = l.parts(l.rule)[heir] - knights / 4;
                if (best == null || gain > best[0]) {
                    best = new int[] {gain, 100 * words + knights};
                }
            }
        }
        return best;
    }

    int best(int heir, int what) {
        return bad(heir) || out(what, 0, 1) ? BAD : bestOf(heir)[what];
    }

    int rather() {
        if (land == null) {
            return STATE;
        }
        int bits = 0;
        for (int i = 0; i < land.ones.size(); i++) {
            int gain = land.parts(land.rule)[i] - land.ones.get(i).promised / 4;
            bits += bestOf(i)[0] > gain ? 1 << i : 0;
        }
        return bits;
    }

    private boolean holds(int truest, int by, Land l, int from) {
        if (from == l.ones.size()) {
            int[] gets = l.parts(by);
            return gets[firstMost(gets)] == gets[truest];
        }
        for (int words = 0; words <= 18; words += 6) {
            say(l, from, words, l.ones.get(from).promised);
            if (!holds(truest, by, l, from + 1)) {
                return false;
            }
        }
        return true;
    }

    int trueRule() {
        if (land == null) {
            return STATE;
        }
        int truest = firstMost(land.ones.stream().mapToInt(o -> o.love).toArray());
        for (int by = 0; by < 4; by++) {
            if (holds(truest, by, land.twin(), 0)) {
                return by;
            }
        }
        return NONE;
    }

    private static void orders(List<Integer> begun, int n, List<List<Integer>> all) {
        if (begun.size() == n) {
            all.add(new ArrayList<>(begun));
        }
        for (int i = 0; i < n; i++) {
            if (!begun.contains(i)) {
                begun.add(i);
                orders(begun, n, all);
                begun.remove(begun.size() - 1);
            }
        }
    }

    private Land after(int n, Land l, IntUnaryOperator hostOf) {
        for (int i = 0; i < n; i++) {
            l.host = hostOf.applyAsInt(i);
            l.month();
        }
        return l;
    }

    int order(int n, int k) {
        if (land == null) {
            return STATE;
        }
        if (out(n, 1, 24) || out(k, -1, 3)) {
            return BAD;
        }
        List<List<Integer>> all = new ArrayList<>();
        orders(new ArrayList<>(), land.ones.size(), all);
        int most = -1;
        List<Integer> best = null;
        for (List<Integer> order : all) {
            int knights = after(n, land.twin(), i -> order.get(i % order.size())).knights;
            if (knights > most) {
                most = knights;
                best = order;
            }
        }
        return k == -1 ? most : k < best.size() ? best.get(k) : NONE;
    }

    private Land inTurn(int n) {
        return after(n, land.twin(), i -> (land.host + i) % land.ones.size());
    }

    int ahead(int n, int what) {
        if (land == null) {
            return STATE;
        }
        if (out(n, 0, 60) || out(what, 0, 1)) {
            return BAD;
        }
        return what == 0 ? inTurn(n).knights : inTurn(n).broken();
    }

    int down(int number) {
        if (land == null) {
            return STATE;
        }
        if (out(number, 1, 99)) {
            return BAD;
        }
        for (int n = 0; n <= 60; n++) {
            if (inTurn(n).knights < number) {
                return n;
            }
        }
        return NONE;
    }

    int loves(int heir, int row, int i, int n, int what) {
        if (bad(heir) || out(row, 0, 7) || out(n, 1, 12) || out(what, 0, 1)) {
            return BAD;
        }
        if (items[row] == null) {
            return end(1, 0);
        }
        if (beyond(row, i, n)) {
            return end(2, 0);
        }
        List<Integer> fit = new ArrayList<>();
        for (int love = 0; love <= 9; love++) {
            Land l = land.twin();
            l.ones.get(heir).love = love;
            boolean so = true;
            for (int m = 0; m < n; m++) {
                l.month();
                so &= l.knights == items[row][i + m];
            }
            if (so) {
                fit.add(love);
            }
        }
        return end(0, what == 0 ? fit.size() : fit.isEmpty() ? NONE : fit.get(0));
    }

    private boolean told(int row, int i, int[] gets) {
        for (int k = 0; k < gets.length; k++) {
            if (items[row][i + k] != gets[k]) {
                return false;
            }
        }
        return true;
    }

    int map(int row, int i) {
        if (land == null) {
            return STATE;
        }
        if (out(row, 0, 7)) {
            return BAD;
        }
        if (items[row] == null) {
            return end(1, 0);
        }
        if (beyond(row, i, land.ones.size())) {
            return end(2, 0);
        }
        int bits = 0;
        for (int by = 0; by < 4; by++) {
            bits += told(row, i, land.parts(by)) ? 1 << by : 0;
        }
        return end(0, bits);
    }

    int who(int heir, int row, int i) {
        if (bad(heir) || out(row, 0, 7)) {
            return BAD;
        }
        if (items[row] == null) {
            return end(1, 0);
        }
        if (beyond(row, i, land.ones.size())) {
            return end(2, 0);
        }
        int bits = 0;
        for (int kind = 1; kind <= 5; kind++) {
            Land l = land.twin();
            l.ones.get(heir).sort = " psjqi".charAt(kind);
            bits += told(row, i, l.parts(l.rule)) ? 1 << kind : 0;
        }
        return end(0, bits);
    }

    /** Cases, of 10 for each that has spoken from one on. */
    private long cases(int heir, int p, Land l, int from) {
        if (from == l.ones.size()) {
            return firstMost(l.parts(l.rule)) == heir ? 1 : 0;
        }
        if (!l.ones.get(from).spoken) {
            return cases(heir, p, l, from + 1);
        }
        Land lies = l.twin();
        lies.ones.get(from).said = 0;
        return p * cases(heir, p, l, from + 1) + (10 - p) * cases(heir, p, lies, from + 1);
    }

    long odds(int heir, int p, int what) {
        if (bad(heir) || out(p, 0, 10) || out(what, 0, 1)) {
            return BAD;
        }
        BigInteger above = BigInteger.valueOf(cases(heir, p, land, 0));
        BigInteger below = BigInteger.TEN.pow((int) land.ones.stream().filter(o -> o.spoken).count());
        BigInteger both = above.gcd(below);
        return (what == 0 ? above : below).divide(both).longValueExact();
    }

    int drawn(int n, int seed, int what) {
        if (land == null) {
            return STATE;
        }
        if (out(n, 0, 60) || out(seed, 1, 999999) || out(what, 0, 1)) {
            return BAD;
        }
        BigInteger x = BigInteger.valueOf(seed);
        int[] hosts = new int[n];
        for (int i = 0; i < n; i++) {
            x = x.multiply(BigInteger.valueOf(16807)).mod(BigInteger.valueOf(2147483647));
            hosts[i] = x.mod(BigInteger.valueOf(land.ones.size())).intValue();
        }
        Land l = after(n, land.twin(), i -> hosts[i]);
        return what == 0 ? l.knights : l.broken();
    }

    int image(int k) {
        if (out(k, 0, 1)) {
            return BAD;
        }
        if (land == null) {
            return STATE;
        }
        images[k] = land.twin();
        return 1;
    }

    int restore(int k) {
        if (out(k, 0, 1)) {
            return BAD;
        }
        if (images[k] == null) {
            return STATE;
        }
        land = images[k].twin();
        past.clear();
        return 1;
    }

    int kind(int one) {
        return bad(one) ? BAD : " psjqi".indexOf(land.ones.get(one).sort);
    }

    int as(int one, int kind) {
        if (bad(one) || out(kind, 0, 5)) {
            return BAD;
        }
        String[] which = {"psjqi", "psj", "s", "j", "qi", "i"};
        return which[kind].indexOf(land.ones.get(one).sort) >= 0 ? end(0, one) : end(3, 0);
    }

    int ask(int one, int what) {
        if (bad(one) || out(what, 0, 1)) {
            return BAD;
        }
        One o = land.ones.get(one);
        int tongued = one + o.tongue;
        switch (String.valueOf(o.sort) + what) {
            case "p0": trace = List.of(11, 10, 21, 20); return o.love + tongued;
            case "p1": trace = List.of(21, 20); return tongued;
            case "s0": trace = List.of(12, 11, 10, 24, 21, 20); return -(o.love + 2 * tongued);
            case "s1": trace = List.of(24, 21, 20); return 2 * tongued;
            case "j0": trace = List.of(11, 10, 22, 21, 20); return o.love + tongued - 1000;
            case "j1": trace = List.of(22, 21, 20); return tongued - 1000;
            case "q0": trace = List.of(13, 10); return o.love - 100;
            case "q1": trace = List.of(23, 20, 13, 10); return one - (o.love - 100);
            case "i0": trace = List.of(14, 13, 10); return 2 * (o.love - 100);
            default: trace = List.of(23, 20, 14, 13, 10); return one - 2 * (o.love - 100);
        }
    }

    int trace(int i) {
        return i < 0 || i >= trace.size() ? NONE : trace.get(i);
    }

    int count(int what) {
        if (out(what, 0, 8)) {
            return BAD;
        }
        int rows = 0;
        for (int[] r : items) {
            rows += r == null ? 0 : 1;
        }
        Land l = land == null ? new Land() : land;
        return new int[] {rows, l.ones.size(), l.size, l.shrinks, l.rule, l.month, l.broken(), past.size(),
            tape.length()}[what];
    }

    int status() {
        return status;
    }
}
