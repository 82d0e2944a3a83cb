import java.util.Random;

/**
 * What is foretold is held against what comes of it in truth: the object is made once more, the thing is done by
 * the calls that do it (or told in the text), and what is there then must be what was foretold.
 */
public final class InTruthTest {
    private static final Checks C = new Checks();
    private static final int REALMS = 60;

    private final int land, knights, shrinks;
    private final int heirs;
    private final char[] sorts = new char[4];
    private final int[] loves = new int[4], tongues = new int[4];
    /** -1 of one who has not spoken. */
    private final int[] words = new int[4];
    private final int[] promised = new int[4];
    private final int rule, from, to, gone, seed;

    private InTruthTest(Random random) {
        land = 1 + random.nextInt(99);
        knights = random.nextInt(100);
        shrinks = random.nextInt(4);
        rule = random.nextInt(4);
        heirs = 2 + random.nextInt(3);
        for (int i = 0; i < heirs; i++) {
            sorts[i] = "psjqi".charAt(random.nextInt(5));
            loves[i] = random.nextInt(10);
            tongues[i] = random.nextInt(10);
            words[i] = random.nextInt(3) == 0 ? -1 : random.nextInt(19);
            promised[i] = words[i] < 0 ? 0 : random.nextInt(41);
        }
        from = random.nextInt(heirs);
        to = random.nextInt(heirs);
        gone = random.nextInt(4);
        seed = 1 + random.nextInt(999999);
    }

    public static void main(String[] args) {
        Random random = new Random(1606);
        for (int i = 0; i < REALMS; i++) {
            InTruthTest test = new InTruthTest(random);
            test.sharesAreLand();
            test.bestAndRather();
            test.trueRule();
            test.monthsAhead();
            test.lovesAreSo();
            test.mapAndWho();
            test.odds();
            test.drawnByHand();
        }
        C.end("InTruthTest");
    }

    private String text() {
        StringBuilder s = new StringBuilder("k").append(land).append(',').append(knights).append(',').append(shrinks)
            .append(',').append(rule).append(';');
        for (int i = 0; i < heirs; i++) {
            s.append(sorts[i]).append(loves[i]).append(',').append(tongues[i]).append(';');
        }
        return s.toString();
    }

    private LoveParts spoken() {
        LoveParts x = Checks.of(text());
        for (int i = 0; i < heirs; i++) {
            if (words[i] >= 0) {
                x.speak(i, words[i], promised[i]);
            }
        }
        return x;
    }

    /** With a letter ahead of it, and some months gone. */
    private LoveParts parted() {
        LoveParts x = spoken();
        x.letter(from, to);
        x.part();
        if (gone > 0) {
            x.months(gone);
        }
        return x;
    }

    private int first(int[] numbers) {
        int at = 0;
        for (int i = 1; i < heirs; i++) {
            at = numbers[i] > numbers[at] ? i : at;
        }
        return at;
    }

    private void sharesAreLand() {
        LoveParts x = spoken();
        for (int by = 0; by < 4; by++) {
            LoveParts truth = spoken();
            truth.rule(by);
            truth.part();
            int all = 0;
            for (int i = 0; i < heirs; i++) {
                C.due(text() + " share " + i + " by " + by, x.share(i, by), truth.heir(i, 5));
                all += truth.heir(i, 5);
            }
            C.due(text() + " all land by " + by, all, land);
        }
    }

    private int gain(LoveParts x, int heir, int knightsOfIt) {
        return x.share(heir, rule) - knightsOfIt / 4;
    }

    private void bestAndRather() {
        int bits = 0;
        for (int i = 0; i < heirs; i++) {
            int most = Integer.MIN_VALUE;
            int speech = 0;
            LoveParts truth = spoken();
            for (int code = 0; code < 19 * 41; code++) {
                if (code % 200 == 199) {
                    // an object is used for 512 calls
                    truth = spoken();
                }
                truth.speak(i, code / 41, code % 41);
                int gain = gain(truth, i, code % 41);
                if (gain > most) {
                    most = gain;
                    speech = 100 * (code / 41) + code % 41;
                }
            }
            C.due(text() + " best of " + i, spoken().best(i, 0), most);
            C.due(text() + " best speech of " + i, spoken().best(i, 1), speech);
            bits += most > gain(spoken(), i, promised[i]) ? 1 << i : 0;
        }
        C.due(text() + " rather", spoken().rather(), bits);
    }

    private boolean truestHas(int truest, int by, int code) {
        LoveParts x = Checks.of(text());
        for (int i = 0; i < heirs; i++) {
            x.speak(i, 6 * (code >> 2 * i & 3), promised[i]);
        }
        for (int i = 0; i < heirs; i++) {
            if (x.share(i, by) > x.share(truest, by)) {
                return false;
            }
        }
        return true;
    }

    private void trueRule() {
        int truest = first(loves);
        int rules = 0;
        for (int by = 3; by >= 0; by--) {
            boolean always = true;
            for (int code = 0; code < 1 << 2 * heirs && always; code++) {
                always = truestHas(truest, by, code);
            }
            rules = rules << 1 | (always ? 1 : 0);
        }
        C.due(text() + " trueRule", spoken().trueRule(), rules == 0 ? Checks.NONE : Integer.numberOfTrailingZeros(rules));
    }

    private void monthsAhead() {
        LoveParts x = parted();
        LoveParts truth = parted();
        C.due(text() + " ahead 0", x.ahead(0, 0), truth.king(0));
        int number = 1 + seed % 99;
        long down = truth.king(0) < number ? 0 : Checks.NONE;
        for (int n = 1; n <= 60; n++) {
            truth.months(1);
            C.due(text() + " ahead " + n, x.ahead(n, 0), truth.king(0));
            C.due(text() + " broken ahead " + n, x.ahead(n, 1), truth.count(6));
            down = down == Checks.NONE && truth.king(0) < number ? n : down;
        }
        C.due(text() + " down " + number, x.down(number), down);
    }

    /** A love that is told in the text; no letter, as it would tell another number by another love. */
    private void lovesAreSo() {
        int heir = seed % heirs;
        int n = 1 + seed % 12;
        LoveParts x = spoken();
        x.row(0, 1, n);
        for (int i = 0; i < n; i++) {
            x.set(0, i, x.ahead(i + 1, 0));
        }
        int fit = 0;
        long least = Checks.NONE;
        int told = loves[heir];
        for (int love = 9; love >= 0; love--) {
            loves[heir] = love;
            LoveParts truth = spoken();
            loves[heir] = told;
            truth.part();
            boolean so = true;
            for (int i = 0; i < n; i++) {
                so &= truth.months(1) == x.ahead(i + 1, 0);
            }
            fit += so ? 1 : 0;
            least = so ? love : least;
        }
        C.due(text() + " loves of " + heir, x.loves(heir, 0, 0, n, 0), fit);
        C.due(text() + " least love of " + heir, x.loves(heir, 0, 0, n, 1), least);
    }

    private boolean sameShares(LoveParts x, int by, LoveParts other, int byOther) {
        for (int i = 0; i < heirs; i++) {
            if (x.share(i, by) != other.share(i, byOther)) {
                return false;
            }
        }
        return true;
    }

    private void mapAndWho() {
        int by = seed % 4;
        int heir = seed % heirs;
        LoveParts x = spoken();
        x.row(7, 0, heirs);
        for (int i = 0; i < heirs; i++) {
            x.set(7, i, x.share(i, by));
        }
        int rules = 0;
        int kinds = 0;
        char told = sorts[heir];
        for (int other = 0; other < 4; other++) {
            rules += sameShares(x, by, x, other) ? 1 << other : 0;
        }
        for (int kind = 1; kind <= 5; kind++) {
            sorts[heir] = " psjqi".charAt(kind);
            kinds += sameShares(x, by, spoken(), rule) ? 1 << kind : 0;
        }
        sorts[heir] = told;
        C.due(text() + " map", x.map(7, 0), rules);
        C.due(text() + " who " + heir, x.who(heir, 7, 0), kinds);
    }

    /** Who does not mean it says 0 in truth; each such case is counted as often as p tells. */
    private void odds() {
        int p = seed % 11;
        int heir = seed % heirs;
        long above = 0;
        long below = 0;
        for (int liars = 0; liars < 1 << heirs; liars++) {
            LoveParts truth = spoken();
            long cases = 1;
            for (int i = 0; i < heirs; i++) {
                boolean lies = (liars >> i & 1) == 1;
                if (words[i] < 0) {
                    cases *= lies ? 0 : 1;
                } else {
                    cases *= lies ? 10 - p : p;
                    truth.speak(i, lies ? 0 : words[i], promised[i]);
                }
            }
            below += cases;
            above += truth.part() == heir ? cases : 0;
        }
        long a = spoken().odds(heir, p, 0);
        long b = spoken().odds(heir, p, 1);
        C.due(text() + " odds of " + heir + " by " + p, a * below, b * above);
        C.isTrue(text() + " odds in lowest terms " + a + " by " + b, b > 0 && divisor(a, b) == 1);
    }

    private static long divisor(long a, long b) {
        return b == 0 ? a : divisor(b, a % b);
    }

    /** No call tells who is the host, so those that the draws pass over are counted by hand. */
    private void drawnByHand() {
        int n = seed % 61;
        LoveParts x = spoken();
        int[] had = new int[heirs];
        int left = knights;
        int broken = 0;
        long draw = seed;
        for (int i = 0; i < n; i++) {
            draw = Math.floorMod(draw * 16807, 2147483647L);
            int host = (int) Math.floorMod(draw, (long) heirs);
            int allowed = Math.max(promised[host] - shrinks * had[host], 0) + loves[host];
            left = Math.min(left, allowed);
            broken += allowed < promised[host] ? 1 : 0;
            had[host]++;
        }
        C.due(text() + " drawn " + n + " by " + seed, x.drawn(n, seed, 0), left);
        C.due(text() + " broken by draws " + n + " by " + seed, x.drawn(n, seed, 1), broken);
    }
}
