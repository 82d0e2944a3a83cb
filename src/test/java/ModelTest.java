import java.util.Random;

/** Runs of 512 calls, told by a seed, on LoveParts and on the model: each answer must be the same. */
public final class ModelTest {
    private static final Checks C = new Checks();
    private static final int RUNS = 400, CALLS = 512;

    private final Random random;
    private final LoveParts x = new LoveParts();
    private final Model m = new Model();
    private final StringBuilder calls = new StringBuilder();
    private int made = 0;

    private ModelTest(long seed) {
        random = new Random(seed);
    }

    public static void main(String[] args) {
        for (int seed = 1; seed <= RUNS && !C.anyWrong(); seed++) {
            ModelTest test = new ModelTest(seed);
            test.run(seed % 5 == 0);
            if (C.anyWrong()) {
                System.out.println("by seed " + seed + ":" + test.calls);
            }
        }
        C.end("ModelTest");
    }

    private void run(boolean wild) {
        while (made < CALLS && !C.anyWrong()) {
            int die = random.nextInt(100);
            if (die < (m.count(1) == 0 ? 30 : 3)) {
                tellText();
            } else if (die < 15) {
                tellMap();
            } else if (die < 22) {
                tellKnights();
            } else {
                call(random.nextInt(36), wild && random.nextInt(4) == 0);
            }
        }
    }

    /** A number that is mostly as told, sometimes at or beyond an edge. */
    private int near(int least, int most, boolean wild) {
        if (wild && random.nextInt(2) == 0) {
            int[] far = {Integer.MIN_VALUE, Integer.MAX_VALUE, -1000000, 1000000, -1, 41, 100, 256};
            return far[random.nextInt(far.length)];
        }
        int die = random.nextInt(24);
        if (die == 0) {
            return least - 1;
        }
        if (die == 1) {
            return most + 1;
        }
        return die == 2 ? most : least + random.nextInt(most - least + 1);
    }

    private int heir() {
        int heirs = Math.max(m.count(1), 1);
        return random.nextInt(20) == 0 ? random.nextInt(7) - 1 : random.nextInt(heirs);
    }

    private void due(String call, long got, long want) {
        made++;
        calls.append(' ').append(call).append('=').append(want);
        C.due(call, got, want);
    }

    private void feed(int c) {
        due("feed(" + c + ")", x.feed(c), m.feed(c));
    }

    private void tellText() {
        StringBuilder text = new StringBuilder();
        text.append('k').append(1 + random.nextInt(99)).append(',').append(random.nextInt(100)).append(',')
            .append(random.nextInt(10)).append(',').append(random.nextInt(4)).append(';');
        int heirs = 2 + random.nextInt(3) + (random.nextInt(12) == 0 ? 1 : 0);
        for (int i = 0; i < heirs; i++) {
            text.append("psjqi".charAt(random.nextInt(5))).append(random.nextInt(10)).append(',')
                .append(random.nextInt(10)).append(';');
        }
        if (random.nextInt(3) == 0) {
            spoil(text);
        }
        for (int i = 0; i < text.length(); i++) {
            feed(text.charAt(i));
        }
        due("realm", x.realm(), m.realm());
        due("fault", x.fault(), m.fault());
    }

    private void spoil(StringBuilder text) {
        String signs = "k0,9;psjqix 1" + (char) 0 + (char) 255 + "AZ/:`{";
        int at = random.nextInt(text.length());
        char c = signs.charAt(random.nextInt(signs.length()));
        switch (random.nextInt(4)) {
            case 0: text.setCharAt(at, c); break;
            case 1: text.insert(at, c); break;
            case 2: text.deleteCharAt(at); break;
            default: text.setLength(at);
        }
    }

    /** A row that tells what some rule, or some kind, would give. */
    private void tellMap() {
        int n = m.count(1);
        if (n == 0) {
            return;
        }
        int row = random.nextInt(8);
        int from = random.nextInt(3);
        int by = random.nextInt(4);
        due("row", x.row(row, 1, from + n), m.row(row, 1, from + n));
        for (int i = 0; i < n; i++) {
            int land = m.share(i, by);
            due("set", x.set(row, from + i, land), m.set(row, from + i, land));
        }
        due("map", x.map(row, from), m.map(row, from));
        int heir = heir();
        due("who(" + heir + ")", x.who(heir, row, from), m.who(heir, row, from));
    }

    private void tellKnights() {
        if (m.count(1) == 0) {
            return;
        }
        int n = 1 + random.nextInt(12);
        due("row", x.row(0, 0, n), m.row(0, 0, n));
        for (int i = 0; i < n; i++) {
            int knights = m.ahead(i + 1, 0);
            due("set", x.set(0, i, knights), m.set(0, i, knights));
        }
        int heir = heir();
        due("loves", x.loves(heir, 0, 0, n, 0), m.loves(heir, 0, 0, n, 0));
        due("least", x.loves(heir, 0, 0, n, 1), m.loves(heir, 0, 0, n, 1));
    }

    private void call(int which, boolean wild) {
        if (which < 9) {
            callRows(which, wild);
        } else if (which < 20) {
            callDone(which, wild);
        } else {
            callForetold(which, wild);
        }
    }

    private void callRows(int which, boolean w) {
        int a = near(0, 7, w);
        int b = near(0, 7, w);
        int i = near(0, 9, w);
        int j = near(0, 9, w);
        int n = near(0, 12, w);
        switch (which) {
            case 0: due("row " + a + "," + n, x.row(a, near0(2), n), m.row(a, lastNear, n)); break;
            case 1:
            case 2:
                int v = random.nextInt();
                due("set " + a + "," + i + "," + v, x.set(a, i, v), m.set(a, i, v));
                break;
            case 3:
            case 4: due("copy " + a + "," + i + "," + b + "," + j + "," + n, x.copy(a, i, b, j, n), m.copy(a, i, b, j, n)); break;
            case 5: due("drop " + a, x.drop(a), m.drop(a)); break;
            case 6: feed(near(0, 255, w)); break;
            case 7: due("map " + a + "," + i, x.map(a, i), m.map(a, i)); break;
            default: due("status", x.status(), m.status());
        }
    }

    private int lastNear = 0;

    private int near0(int most) {
        lastNear = near(0, most, false);
        return lastNear;
    }

    private void callDone(int which, boolean w) {
        int h = w ? near(0, 3, true) : heir();
        int o = heir();
        int n = near(1, 24, w);
        int k = near(0, 40, w);
        int words = near(0, 18, w);
        int what = near(0, 8, w);
        switch (which) {
            case 9:
            case 10:
            case 11: due("speak " + h + "," + words + "," + k, x.speak(h, words, k), m.speak(h, words, k)); break;
            case 12:
                if (random.nextInt(3) == 0) {
                    due("part", x.part(), m.part());
                }
                break;
            case 13: due("rule " + what, x.rule(what), m.rule(what)); break;
            case 14: due("months " + n, x.months(n), m.months(n)); break;
            case 15: due("letter " + h + "," + o, x.letter(h, o), m.letter(h, o)); break;
            case 16: due("heir " + h + "," + what, x.heir(h, what), m.heir(h, what)); break;
            case 17: due("king " + what, x.king(what), m.king(what)); break;
            case 18: due("count " + what, x.count(what), m.count(what)); break;
            default: due("undo", x.undo(), m.undo());
        }
    }

    private void callForetold(int which, boolean w) {
        int h = w ? near(0, 3, true) : heir();
        int n = near(0, 60, w);
        int k = near(0, 3, w);
        int p = near(0, 10, w);
        int row = near(0, 7, w);
        int i = near(0, 5, w);
        int what = near(0, 1, w);
        int seed = near(1, 999999, w);
        switch (which) {
            case 20: due("share " + h + "," + k, x.share(h, k), m.share(h, k)); break;
            case 21: due("best " + h + "," + what, x.best(h, what), m.best(h, what)); break;
            case 22: due("rather", x.rather(), m.rather()); break;
            case 23: due("trueRule", x.trueRule(), m.trueRule()); break;
            case 24:
                int months = near(1, 24, w);
                due("order " + months + "," + (k - 1), x.order(months, k - 1), m.order(months, k - 1));
                break;
            case 25: due("ahead " + n + "," + what, x.ahead(n, what), m.ahead(n, what)); break;
            case 26:
                int number = near(1, random.nextInt(2) == 0 ? 12 : 99, w);
                due("down " + number, x.down(number), m.down(number));
                break;
            case 27:
                int most = near(1, 12, w);
                due("loves " + h, x.loves(h, row, i, most, what), m.loves(h, row, i, most, what));
                break;
            case 28: due("who " + h, x.who(h, row, i), m.who(h, row, i)); break;
            case 29: due("odds " + h + "," + p + "," + what, x.odds(h, p, what), m.odds(h, p, what)); break;
            case 30: due("drawn " + n + "," + seed + "," + what, x.drawn(n, seed, what), m.drawn(n, seed, what)); break;
            case 31: due("image " + what, x.image(what), m.image(what)); break;
            case 32:
                if (random.nextInt(3) == 0) {
                    due("restore " + what, x.restore(what), m.restore(what));
                }
                break;
            case 33: due("as " + h + "," + (k + 1), x.as(h, k + 1), m.as(h, k + 1)); break;
            case 34: due("kind " + h, x.kind(h), m.kind(h)); break;
            default:
                due("ask " + h + "," + what, x.ask(h, what), m.ask(h, what));
                due("trace " + i, x.trace(i), m.trace(i));
        }
    }
}
