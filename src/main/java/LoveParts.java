/** A king parts his land by what his heirs say; DOC.md tells, as numbered promises, what each call answers. */
public final class LoveParts {
    public static final int NONE = -1000000, BAD = -1000001, STATE = -1000002, FULL = -1000003;

    private static final int FINDINGS = -1000010, FAULTS = -1000100;
    private static final int NULL = 1, PLACE = 2, KIND = 3, SIZE = 4, STORE = 5;
    private static final int ROWS = 8, ITEMS = 40, LANES = 3, TAPE = 100;
    private static final int LEAST_HEIRS = 2, MOST_HEIRS = 4, KINDS = 5, RULES = 4, MOST_LOVE = 9;
    private static final int MOST_WORDS = 18, MOST_KNIGHTS = 40, KNIGHTS_BY_LAND = 4;
    private static final int BY_WORDS_AND_KNIGHTS = 1, BY_HEADS = 2, BY_FEW_WORDS = 3;
    private static final int ACTS = 24, IMAGES = 2, MOST_MONTH = 999, FAR_MONTHS = 60;
    private static final int NO_LETTER = 1000000, NOBODY = -1;

    private final Row[] rows = new Row[ROWS];
    private final Reader reader = new Reader();
    private final Nature[] natures = new Nature[KINDS + 1];
    private final Trace lastTrace = new Trace();
    private final Realm now;
    private final Realm trial;
    private final Realm[] images = new Realm[IMAGES];
    private final Realm[] before = new Realm[ACTS];
    private int acts = 0;
    private int nextAct = 0;
    private final int[] weights = new int[MOST_HEIRS];
    private final int[] shares = new int[MOST_HEIRS];
    private final int[] hosts = new int[MOST_HEIRS];
    private final int[] bestHosts = new int[MOST_HEIRS];
    private int lastFault = 0;
    private int lastFinding = 0;

    public LoveParts() {
        Nature plain = new Plain();
        natures[1] = plain;
        natures[2] = new Schooled();
        natures[3] = new Joint();
        natures[4] = new Silent();
        natures[5] = new Ironic();
        now = new Realm(plain);
        trial = new Realm(plain);
        for (int i = 0; i < ROWS; i++) {
            rows[i] = new Row();
        }
        for (int i = 0; i < IMAGES; i++) {
            images[i] = new Realm(plain);
        }
        for (int i = 0; i < ACTS; i++) {
            before[i] = new Realm(plain);
        }
    }

    // ---- rows

    public int row(int row, int lane, int n) {
        if (!within(row, 0, ROWS - 1) || !within(lane, 0, LANES - 1) || n > ITEMS) {
            return BAD;
        }
        if (n < 0) {
            return found(SIZE);
        }
        rows[row].begin(lane, n);
        return foundNothing(n);
    }

    public int set(int row, int i, int v) {
        if (!within(row, 0, ROWS - 1)) {
            return BAD;
        }
        Row r = rows[row];
        if (r.missing()) {
            return found(NULL);
        }
        if (!r.holds(i, 1)) {
            return found(PLACE);
        }
        r.items[i] = r.fitted(v);
        return foundNothing(r.items[i]);
    }

    public int copy(int a, int i, int b, int j, int n) {
        if (!within(a, 0, ROWS - 1) || !within(b, 0, ROWS - 1)) {
            return BAD;
        }
        Row from = rows[a];
        Row to = rows[b];
        if (from.missing() || to.missing()) {
            return found(NULL);
        }
        if (from.lane != to.lane) {
            return found(STORE);
        }
        if (!from.holds(i, n) || !to.holds(j, n)) {
            return found(PLACE);
        }
        System.arraycopy(from.items, i, to.items, j, n);
        return foundNothing(n);
    }

    public int drop(int row) {
        if (!within(row, 0, ROWS - 1)) {
            return BAD;
        }
        Row r = rows[row];
        if (r.missing()) {
            return found(NULL);
        }
        int had = r.size;
        r.end();
        return foundNothing(had);
    }

    // ---- what is told

    public int feed(int letter) {
        if (!within(letter, 0, 255)) {
            return BAD;
        }
        if (reader.length >= TAPE) {
            return FULL;
        }
        reader.tape[reader.length] = letter;
        reader.length++;
        return reader.length;
    }

    public int realm() {
        // a text that has a fault must leave the realm as it is, so it is read aside
        reader.read(trial, natures);
        if (reader.fault != 0) {
            lastFault = reader.fault;
            return FAULTS - reader.at;
        }
        now.take(trial);
        forgetActs();
        return now.heirs;
    }

    public int fault() {
        return lastFault;
    }

    public int undo() {
        if (acts == 0) {
            return STATE;
        }
        nextAct = nextAct == 0 ? ACTS - 1 : nextAct - 1;
        acts--;
        now.take(before[nextAct]);
        return acts;
    }

    // ---- what is done

    public int speak(int heir, int words, int knights) {
        if (!isHeir(heir) || !within(words, 0, MOST_WORDS) || !within(knights, 0, MOST_KNIGHTS)) {
            return BAD;
        }
        if (now.parted) {
            return STATE;
        }
        int own = now.ownWords(heir);
        keepForUndo();
        now.all[heir].say(words, knights);
        return own;
    }

    public int part() {
        if (noRealm() || now.parted) {
            return STATE;
        }
        keepForUndo();
        now.divide(now.rule, shares);
        for (int i = 0; i < now.heirs; i++) {
            now.all[i].land = shares[i];
        }
        now.parted = true;
        return firstGreatest(shares, now.heirs);
    }

    public int rule(int n) {
        if (noRealm()) {
            return STATE;
        }
        if (!within(n, 0, RULES - 1)) {
            return BAD;
        }
        if (now.parted) {
            return STATE;
        }
        int was = now.rule;
        keepForUndo();
        now.rule = n;
        return was;
    }

    public int months(int n) {
        if (noRealm()) {
            return STATE;
        }
        if (!within(n, 1, 24)) {
            return BAD;
        }
        if (!now.parted) {
            return STATE;
        }
        if (now.month + n > MOST_MONTH) {
            return FULL;
        }
        for (int i = 0; i < n; i++) {
            keepForUndo();
            now.passMonth();
        }
        return now.knights;
    }

    public int letter(int from, int to) {
        if (!isHeir(from) || !isHeir(to) || from == to) {
            return BAD;
        }
        keepForUndo();
        Heir reads = now.all[to];
        // an earlier letter holds on, so a later one can only tell less
        reads.told = Math.min(reads.told, now.allowedBy(from));
        return now.allowedBy(to);
    }

    public int heir(int heir, int what) {
        if (!isHeir(heir)) {
            return BAD;
        }
        Heir h = now.all[heir];
        switch (what) {
            case 0: return h.love;
            case 1: return h.tongue;
            case 2: return h.spoken ? 1 : 0;
            case 3: return now.says(heir);
            case 4: return h.promised;
            case 5: return h.land;
            case 6: return now.allowedBy(heir);
            case 7: return h.hosted;
            case 8: return h.broken;
            default: return BAD;
        }
    }

    public int king(int what) {
        if (noRealm()) {
            return STATE;
        }
        switch (what) {
            case 0: return now.knights;
            case 1: return now.host;
            case 2: return now.parted ? 1 : 0;
            default: return BAD;
        }
    }

    // ---- foretold

    public int share(int heir, int by) {
        if (!isHeir(heir) || !within(by, 0, RULES - 1)) {
            return BAD;
        }
        now.divide(by, shares);
        return shares[heir];
    }

    public int best(int heir, int what) {
        if (!isHeir(heir) || !within(what, 0, 1)) {
            return BAD;
        }
        int speech = bestSpeech(heir);
        return what == 0 ? gainBySpeech(heir, speech) : speech;
    }

    public int rather() {
        if (noRealm()) {
            return STATE;
        }
        int bits = 0;
        for (int i = 0; i < now.heirs; i++) {
            if (gainBySpeech(i, bestSpeech(i)) > gainNow(i)) {
                bits |= 1 << i;
            }
        }
        return bits;
    }

    public int trueRule() {
        if (noRealm()) {
            return STATE;
        }
        int truest = truestHeir();
        for (int by = 0; by < RULES; by++) {
            if (truestGetsMost(truest, by)) {
                return by;
            }
        }
        return NONE;
    }

    public int order(int n, int k) {
        if (noRealm()) {
            return STATE;
        }
        if (!within(n, 1, 24) || !within(k, -1, MOST_HEIRS - 1)) {
            return BAD;
        }
        int most = findBestHosts(n);
        if (k < 0) {
            return most;
        }
        return k < now.heirs ? bestHosts[k] : NONE;
    }

    public int ahead(int n, int what) {
        if (noRealm()) {
            return STATE;
        }
        if (!within(n, 0, FAR_MONTHS) || !within(what, 0, 1)) {
            return BAD;
        }
        trial.take(now);
        for (int i = 0; i < n; i++) {
            trial.passMonth();
        }
        return what == 0 ? trial.knights : trial.brokenByAll();
    }

    public int down(int number) {
        if (noRealm()) {
            return STATE;
        }
        if (!within(number, 1, 99)) {
            return BAD;
        }
        trial.take(now);
        for (int gone = 0; gone <= FAR_MONTHS; gone++) {
            if (trial.knights < number) {
                return gone;
            }
            trial.passMonth();
        }
        return NONE;
    }

    public int loves(int heir, int row, int i, int n, int what) {
        if (!isHeir(heir) || !within(row, 0, ROWS - 1) || !within(n, 1, 12) || !within(what, 0, 1)) {
            return BAD;
        }
        Row told = rows[row];
        if (told.missing()) {
            return found(NULL);
        }
        if (!told.holds(i, n)) {
            return found(PLACE);
        }
        int fitting = 0;
        int least = NONE;
        for (int love = MOST_LOVE; love >= 0; love--) {
            trial.take(now);
            trial.all[heir].love = love;
            if (knightsGoAs(told, i, n)) {
                fitting++;
                least = love;
            }
        }
        return foundNothing(what == 0 ? fitting : least);
    }

    public int map(int row, int i) {
        if (noRealm()) {
            return STATE;
        }
        if (!within(row, 0, ROWS - 1)) {
            return BAD;
        }
        Row told = rows[row];
        if (told.missing()) {
            return found(NULL);
        }
        if (!told.holds(i, now.heirs)) {
            return found(PLACE);
        }
        int bits = 0;
        for (int by = 0; by < RULES; by++) {
            now.divide(by, shares);
            if (told.tells(i, shares, now.heirs)) {
                bits |= 1 << by;
            }
        }
        return foundNothing(bits);
    }

    public int who(int heir, int row, int i) {
        if (!isHeir(heir) || !within(row, 0, ROWS - 1)) {
            return BAD;
        }
        Row told = rows[row];
        if (told.missing()) {
            return found(NULL);
        }
        if (!told.holds(i, now.heirs)) {
            return found(PLACE);
        }
        int bits = 0;
        trial.take(now);
        for (int kind = 1; kind <= KINDS; kind++) {
            trial.all[heir].nature = natures[kind];
            trial.divide(trial.rule, shares);
            if (told.tells(i, shares, trial.heirs)) {
                bits |= 1 << kind;
            }
        }
        return foundNothing(bits);
    }

    public long odds(int heir, int p, int what) {
        if (!isHeir(heir) || !within(p, 0, 10) || !within(what, 0, 1)) {
            return BAD;
        }
        long above = 0;
        for (int liars = 0; liars < 1 << now.heirs; liars++) {
            int cases = casesOf(liars, p);
            if (cases > 0 && greatestWithLiars(liars) == heir) {
                above += cases;
            }
        }
        long below = 1;
        for (int i = 0; i < now.heirs; i++) {
            below *= now.all[i].spoken ? 10 : 1;
        }
        // below is 1 at least, and so is what divides it
        long common = Math.max(commonDivisor(above, below), 1);
        return (what == 0 ? above : below) / common;
    }

    public int drawn(int n, int seed, int what) {
        if (noRealm()) {
            return STATE;
        }
        if (!within(n, 0, FAR_MONTHS) || !within(seed, 1, 999999) || !within(what, 0, 1)) {
            return BAD;
        }
        long x = seed;
        trial.take(now);
        for (int i = 0; i < n; i++) {
            x = x * 16807 % 2147483647;
            trial.host = (int) (x % now.heirs);
            trial.passMonth();
        }
        return what == 0 ? trial.knights : trial.brokenByAll();
    }

    public int image(int k) {
        if (!within(k, 0, IMAGES - 1)) {
            return BAD;
        }
        if (noRealm()) {
            return STATE;
        }
        images[k].take(now);
        return 1;
    }

    public int restore(int k) {
        if (!within(k, 0, IMAGES - 1)) {
            return BAD;
        }
        if (images[k].heirs == 0) {
            return STATE;
        }
        now.take(images[k]);
        forgetActs();
        return 1;
    }

    // ---- asked

    public int kind(int one) {
        return isHeir(one) ? now.all[one].nature.number() : BAD;
    }

    public int as(int one, int kind) {
        if (!isHeir(one) || !within(kind, 0, KINDS)) {
            return BAD;
        }
        return isOfKind(now.all[one].nature, kind) ? foundNothing(one) : found(KIND);
    }

    public int ask(int one, int what) {
        if (!isHeir(one) || !within(what, 0, 1)) {
            return BAD;
        }
        Heir h = now.all[one];
        lastTrace.length = 0;
        return what == 0 ? h.nature.size(h, lastTrace) : h.nature.mark(h, lastTrace);
    }

    public int trace(int i) {
        return within(i, 0, lastTrace.length - 1) ? lastTrace.bodies[i] : NONE;
    }

    public int count(int what) {
        switch (what) {
            case 0: return rowsThere();
            case 1: return now.heirs;
            case 2: return now.land;
            case 3: return now.shrinks;
            case 4: return now.rule;
            case 5: return now.month;
            case 6: return now.brokenByAll();
            case 7: return acts;
            case 8: return reader.length;
            default: return BAD;
        }
    }

    public int status() {
        return lastFinding;
    }

    // ---- helpers of the calls

    private static boolean within(int number, int least, int most) {
        return number >= least && number <= most;
    }

    private boolean noRealm() {
        return now.heirs == 0;
    }

    private boolean isHeir(int number) {
        return within(number, 0, now.heirs - 1);
    }

    private int found(int finding) {
        lastFinding = finding;
        return FINDINGS - finding;
    }

    private int foundNothing(int answer) {
        lastFinding = 0;
        return answer;
    }

    private int rowsThere() {
        int there = 0;
        for (int i = 0; i < ROWS; i++) {
            there += rows[i].missing() ? 0 : 1;
        }
        return there;
    }

    private void keepForUndo() {
        before[nextAct].take(now);
        nextAct = nextAct == ACTS - 1 ? 0 : nextAct + 1;
        acts = Math.min(acts + 1, ACTS);
    }

    private void forgetActs() {
        acts = 0;
        nextAct = 0;
    }

    private static int firstGreatest(int[] numbers, int n) {
        int first = 0;
        for (int i = 1; i < n; i++) {
            if (numbers[i] > numbers[first]) {
                first = i;
            }
        }
        return first;
    }

    private static boolean isOfKind(Nature nature, int kind) {
        switch (kind) {
            case 0: return true;
            case 1: return nature instanceof Plain;
            case 2: return nature instanceof Schooled;
            case 3: return nature instanceof Joint;
            case 4: return nature instanceof Silent;
            case 5: return nature instanceof Ironic;
            default: return false;
        }
    }

    private int gainNow(int heir) {
        now.divide(now.rule, shares);
        return shares[heir] - now.all[heir].promised / KNIGHTS_BY_LAND;
    }

    private int gainBySpeech(int heir, int speech) {
        int knights = speech % 100;
        trial.take(now);
        trial.all[heir].say(speech / 100, knights);
        trial.divide(trial.rule, shares);
        return shares[heir] - knights / KNIGHTS_BY_LAND;
    }

    /** 100 times the words, and the knights. */
    private int bestSpeech(int heir) {
        // by every other rule knights weigh nothing and only cost, so none is best
        int mostKnights = now.rule == BY_WORDS_AND_KNIGHTS ? MOST_KNIGHTS : 0;
        int most = -1;
        int speech = 0;
        trial.take(now);
        for (int words = 0; words <= MOST_WORDS; words++) {
            trial.all[heir].say(words, 0);
            trial.weigh(trial.rule, weights);
            int withoutKnights = weights[heir];
            for (int knights = 0; knights <= mostKnights; knights++) {
                weights[heir] = withoutKnights + knights;
                trial.cut(weights, shares);
                int gain = shares[heir] - knights / KNIGHTS_BY_LAND;
                if (gain > most) {
                    most = gain;
                    speech = 100 * words + knights;
                }
            }
        }
        return speech;
    }

    private int truestHeir() {
        int truest = 0;
        for (int i = 1; i < now.heirs; i++) {
            if (now.all[i].love > now.all[truest].love) {
                truest = i;
            }
        }
        return truest;
    }

    private boolean truestGetsMost(int truest, int by) {
        trial.take(now);
        // two bits of the code for each heir: one of four words
        for (int code = 0; code < 1 << (2 * now.heirs); code++) {
            for (int i = 0; i < now.heirs; i++) {
                trial.all[i].say(6 * (code >> (2 * i) & 3), now.all[i].promised);
            }
            trial.divide(by, shares);
            if (shares[firstGreatest(shares, now.heirs)] > shares[truest]) {
                return false;
            }
        }
        return true;
    }

    /** KNIGHTS by the best order, which is left in bestHosts. */
    private int findBestHosts(int n) {
        int most = -1;
        int codes = 1;
        for (int i = 0; i < now.heirs; i++) {
            codes *= now.heirs;
        }
        for (int code = 0; code < codes; code++) {
            if (isOrder(code)) {
                int knights = knightsByHosts(n);
                if (knights > most) {
                    most = knights;
                    System.arraycopy(hosts, 0, bestHosts, 0, MOST_HEIRS);
                }
            }
        }
        return most;
    }

    /** Lays the code's figures into hosts, the last figure last, so that orders come by numbers. */
    private boolean isOrder(int code) {
        int rest = code;
        int seen = 0;
        for (int i = now.heirs - 1; i >= 0; i--) {
            hosts[i] = rest % now.heirs;
            rest /= now.heirs;
            seen |= 1 << hosts[i];
        }
        return seen == (1 << now.heirs) - 1;
    }

    private int knightsByHosts(int n) {
        trial.take(now);
        for (int i = 0; i < n; i++) {
            trial.host = hosts[i % now.heirs];
            trial.passMonth();
        }
        return trial.knights;
    }

    private boolean knightsGoAs(Row told, int from, int n) {
        for (int i = 0; i < n; i++) {
            trial.passMonth();
            if (trial.knights != told.items[from + i]) {
                return false;
            }
        }
        return true;
    }

    /** In how many of 10 cases for each who has SPOKEN just these (bits) do not mean it. */
    private int casesOf(int liars, int p) {
        int cases = 1;
        for (int i = 0; i < now.heirs; i++) {
            boolean lies = (liars >> i & 1) == 1;
            if (now.all[i].spoken) {
                cases *= lies ? 10 - p : p;
            } else if (lies) {
                return 0;
            }
        }
        return cases;
    }

    private int greatestWithLiars(int liars) {
        trial.take(now);
        for (int i = 0; i < now.heirs; i++) {
            if ((liars >> i & 1) == 1) {
                trial.all[i].said = 0;
            }
        }
        trial.divide(trial.rule, shares);
        return firstGreatest(shares, now.heirs);
    }

    private static long commonDivisor(long a, long b) {
        long greater = a;
        long less = b;
        for (int step = 0; step < 100 && less != 0; step++) {
            long rest = greater % less;
            greater = less;
            less = rest;
        }
        return greater;
    }

    // ---- what there is

    private static final class Row {
        static final int MISSING = -1;
        final int[] items = new int[ITEMS];
        int lane = MISSING;
        int size = 0;

        boolean missing() {
            return lane == MISSING;
        }

        void begin(int newLane, int n) {
            lane = newLane;
            size = n;
            for (int i = 0; i < n; i++) {
                items[i] = 0;
            }
        }

        void end() {
            lane = MISSING;
            size = 0;
        }

        /** Whether n ITEMS from i on are there; the form of the test keeps i + n from wrapping around. */
        boolean holds(int i, int n) {
            return i >= 0 && n >= 0 && i <= size - n;
        }

        int fitted(int v) {
            if (lane == 0) {
                return (byte) v;
            }
            return lane == 1 ? (short) v : v;
        }

        boolean tells(int from, int[] numbers, int n) {
            for (int i = 0; i < n; i++) {
                if (items[from + i] != numbers[i]) {
                    return false;
                }
            }
            return true;
        }
    }

    /** The tape, and the reading of it: a fault stays at the first token that has one. */
    private static final class Reader {
        static final int NUMBER = 256, END = 257, NO_TOKEN = 258;
        static final int MISPLACED = 1, WRONG_NUMBER = 2, NO_ROOM = 3;
        final int[] tape = new int[TAPE];
        int length = 0;
        int fault = 0;
        int at = 0;
        int behind = 0;
        int token = END;
        int value = 0;

        void read(Realm into, Nature[] natures) {
            fault = 0;
            behind = 0;
            nextToken();
            into.begin();
            readLaw(into);
            readHeirs(into, natures);
            length = 0;
        }

        void readLaw(Realm into) {
            sign('k');
            into.land = number(1, 99);
            sign(',');
            into.knights = number(0, 99);
            sign(',');
            into.shrinks = number(0, 9);
            sign(',');
            into.rule = number(0, RULES - 1);
            sign(';');
        }

        void readHeirs(Realm into, Nature[] natures) {
            for (int i = 0; i <= MOST_HEIRS && fault == 0; i++) {
                if (token == END && i >= LEAST_HEIRS) {
                    return;
                }
                int kind = kindBySort(token);
                if (kind == 0) {
                    fault = MISPLACED;
                } else if (i == MOST_HEIRS) {
                    fault = NO_ROOM;
                } else {
                    Heir h = into.all[i];
                    h.nature = natures[kind];
                    nextToken();
                    h.love = number(0, MOST_LOVE);
                    sign(',');
                    h.tongue = number(0, 9);
                    sign(';');
                    into.heirs = i + 1;
                }
            }
        }

        static int kindBySort(int letter) {
            switch (letter) {
                case 'p': return 1;
                case 's': return 2;
                case 'j': return 3;
                case 'q': return 4;
                case 'i': return 5;
                default: return 0;
            }
        }

        void sign(int due) {
            if (fault == 0 && token != due) {
                fault = MISPLACED;
            }
            nextToken();
        }

        int number(int least, int most) {
            int told = value;
            if (fault == 0 && token != NUMBER) {
                fault = MISPLACED;
            } else if (fault == 0 && !within(told, least, most)) {
                fault = WRONG_NUMBER;
            }
            nextToken();
            return told;
        }

        void nextToken() {
            if (fault != 0) {
                return;
            }
            at = behind;
            value = 0;
            if (at >= length) {
                token = END;
                return;
            }
            int c = tape[at];
            behind = at + 1;
            if (isFigure(c)) {
                readFigures();
            } else {
                token = c >= 'a' && c <= 'z' || c == ',' || c == ';' ? c : NO_TOKEN;
            }
        }

        void readFigures() {
            behind = at;
            while (behind < length && isFigure(tape[behind])) {
                // of a run that is too long the value is never used, so it may wrap around
                value = 10 * value + tape[behind] - '0';
                behind++;
            }
            token = behind - at <= 2 ? NUMBER : NO_TOKEN;
        }

        static boolean isFigure(int c) {
            return c >= '0' && c <= '9';
        }
    }

    private static final class Heir {
        final int number;
        Nature nature;
        int love = 0;
        int tongue = 0;
        boolean spoken = false;
        int said = 0;
        int promised = 0;
        int land = 0;
        int told = NO_LETTER;
        int hosted = 0;
        int broken = 0;

        Heir(int number, Nature nature) {
            this.number = number;
            this.nature = nature;
        }

        void say(int words, int knights) {
            spoken = true;
            said = words;
            promised = knights;
        }

        /** As it is when a REALM begins, but for what the text tells of it. */
        void begin() {
            spoken = false;
            said = 0;
            promised = 0;
            land = 0;
            told = NO_LETTER;
            hosted = 0;
            broken = 0;
        }

        void take(Heir other) {
            nature = other.nature;
            love = other.love;
            tongue = other.tongue;
            spoken = other.spoken;
            said = other.said;
            promised = other.promised;
            land = other.land;
            told = other.told;
            hosted = other.hosted;
            broken = other.broken;
        }
    }

    /** One that has no heirs is none. */
    private static final class Realm {
        final Heir[] all = new Heir[MOST_HEIRS];
        int heirs = 0;
        int land = 0;
        int knights = 0;
        int shrinks = 0;
        int rule = 0;
        int host = 0;
        int month = 0;
        boolean parted = false;

        Realm(Nature first) {
            for (int i = 0; i < MOST_HEIRS; i++) {
                all[i] = new Heir(i, first);
            }
        }

        void begin() {
            heirs = 0;
            host = 0;
            month = 0;
            parted = false;
            for (int i = 0; i < MOST_HEIRS; i++) {
                all[i].begin();
            }
        }

        void take(Realm other) {
            heirs = other.heirs;
            land = other.land;
            knights = other.knights;
            shrinks = other.shrinks;
            rule = other.rule;
            host = other.host;
            month = other.month;
            parted = other.parted;
            for (int i = 0; i < heirs; i++) {
                all[i].take(other.all[i]);
            }
        }

        int ownWords(int heir) {
            int nearest = NOBODY;
            for (int i = 0; i < heir; i++) {
                if (all[i].spoken) {
                    nearest = all[i].said;
                }
            }
            Heir h = all[heir];
            return Math.min(h.nature.own(h, nearest), MOST_WORDS);
        }

        int says(int heir) {
            return all[heir].spoken ? all[heir].said : ownWords(heir);
        }

        static int weight(int says, int promised, int by) {
            switch (by) {
                case BY_WORDS_AND_KNIGHTS: return says + promised + 1;
                case BY_HEADS: return 1;
                case BY_FEW_WORDS: return MOST_WORDS - says + 1;
                default: return says + 1;
            }
        }

        void weigh(int by, int[] out) {
            for (int i = 0; i < heirs; i++) {
                out[i] = weight(says(i), all[i].promised, by);
            }
        }

        void cut(int[] weighed, int[] out) {
            int sum = 0;
            for (int i = 0; i < heirs; i++) {
                sum += weighed[i];
            }
            int greatest = firstGreatest(weighed, heirs);
            int left = land;
            for (int i = 0; i < heirs; i++) {
                int part = sum > 0 ? land * weighed[i] / sum : 0;
                left -= part;
                out[i] = part;
            }
            out[greatest] += left;
        }

        /** Leaves in out what each gets; weights and shares may lie in one array, as each is read before it is laid. */
        void divide(int by, int[] out) {
            weigh(by, out);
            cut(out, out);
        }

        int allowedBy(int heir) {
            Heir h = all[heir];
            int kept = Math.max(h.promised - shrinks * h.hosted, 0) + h.love;
            return Math.min(kept, h.told);
        }

        void passMonth() {
            Heir h = all[host];
            int allowed = allowedBy(host);
            knights = Math.min(knights, allowed);
            if (allowed < h.promised) {
                h.broken++;
            }
            h.hosted++;
            month++;
            host = host + 1 < heirs ? host + 1 : 0;
        }

        int brokenByAll() {
            int sum = 0;
            for (int i = 0; i < heirs; i++) {
                sum += all[i].broken;
            }
            return sum;
        }
    }

    /** The numbers of the BODIES that began, the first ones. */
    private static final class Trace {
        static final int MOST = 16;
        final int[] bodies = new int[MOST];
        int length = 0;

        void leave(int body) {
            if (length < MOST) {
                bodies[length] = body;
                length++;
            }
        }
    }

    /** A KIND: what all HEIRS are lent, and what each KIND has in place of it. */
    private abstract static class Nature {
        abstract int number();

        /** OWN words (as many as they are) behind the nearest who SAID so much, or NOBODY. */
        abstract int own(Heir h, int nearest);

        int size(Heir h, Trace t) {
            t.leave(10);
            return h.love;
        }

        int mark(Heir h, Trace t) {
            t.leave(20);
            return h.number;
        }
    }

    private static class Plain extends Nature {
        int number() {
            return 1;
        }

        int own(Heir h, int nearest) {
            return h.love;
        }

        int size(Heir h, Trace t) {
            t.leave(11);
            return super.size(h, t) + mark(h, t);
        }

        int mark(Heir h, Trace t) {
            t.leave(21);
            return super.mark(h, t) + h.tongue;
        }
    }

    private static final class Schooled extends Plain {
        int number() {
            return 2;
        }

        int own(Heir h, int nearest) {
            return h.love + h.tongue;
        }

        int size(Heir h, Trace t) {
            t.leave(12);
            return -super.size(h, t);
        }

        int mark(Heir h, Trace t) {
            t.leave(24);
            return 2 * super.mark(h, t);
        }
    }

    private static final class Joint extends Plain {
        int number() {
            return 3;
        }

        int own(Heir h, int nearest) {
            return nearest == NOBODY ? h.love : nearest + 1;
        }

        int mark(Heir h, Trace t) {
            t.leave(22);
            return super.mark(h, t) - 1000;
        }
    }

    private static class Silent extends Nature {
        int number() {
            return 4;
        }

        int own(Heir h, int nearest) {
            return 0;
        }

        int size(Heir h, Trace t) {
            t.leave(13);
            return super.size(h, t) - 100;
        }

        int mark(Heir h, Trace t) {
            t.leave(23);
            return super.mark(h, t) - size(h, t);
        }
    }

    private static final class Ironic extends Silent {
        int number() {
            return 5;
        }

        int own(Heir h, int nearest) {
            return 9 - h.love;
        }

        int size(Heir h, Trace t) {
            t.leave(14);
            return 2 * super.size(h, t);
        }
    }
}
