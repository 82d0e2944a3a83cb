/** Promises 17 to 30: what is foretold, and images. */
public final class ForetoldTest {
    private static final Checks C = new Checks();
    private static final String FOUR = "k90,50,2,0;p3,5;s5,4;j8,2;i2,7;";
    private static final String TWO = "k10,30,5,0;p0,0;p5,0;";

    public static void main(String[] args) {
        promise17();
        promise18();
        promise19();
        promise20();
        promise21();
        promise22();
        promise23();
        promise24();
        promise25();
        promise26();
        promise27();
        promise28();
        promises29And30();
        C.end("ForetoldTest");
    }

    private static void promise17() {
        LoveParts x = Checks.of(FOUR);
        x.speak(3, 0, 20);
        int[][] due = {
            // weights 4, 10, 9, 1 of 24: 15, 37, 33, 3, and two are left
            {15, 39, 33, 3},
            // weights 4, 10, 9, 21 of 44
            {8, 20, 18, 44},
            {24, 22, 22, 22},
            // weights 16, 10, 11, 19 of 56: 25, 16, 17, 30, and two are left
            {25, 16, 17, 32},
        };
        for (int by = 0; by < 4; by++) {
            for (int i = 0; i < 4; i++) {
                C.due("share " + i + " by " + by, x.share(i, by), due[by][i]);
            }
        }
        x.part();
        C.due("parted already, by another rule", x.share(3, 1), 44);
        C.due("rule 4", x.share(0, 4), Checks.BAD);
        C.due("rule -1", x.share(0, -1), Checks.BAD);
        C.due("heir 4", x.share(4, 0), Checks.BAD);
        C.due("heir -1", x.share(-1, 0), Checks.BAD);
        C.due("no land yet changed", x.count(7), 2);
    }

    private static void promise18() {
        LoveParts x = Checks.of("k8,9,0,0;p0,0;p0,0;");
        // against a weight of 1 a weight of 8 is the first to leave nothing: 7 and what is left
        C.due("how much", x.best(0, 0), 8);
        C.due("speech", x.best(0, 1), 700);
        C.due("of the other", x.best(1, 0), 8);
        C.due("speech", x.best(1, 1), 700);
        x.rule(1);
        // three knights cost nothing and stand for three words
        C.due("by knights, too", x.best(0, 0), 8);
        C.due("speech", x.best(0, 1), 403);
        x.rule(2);
        C.due("by heads", x.best(1, 0), 4);
        C.due("speech", x.best(1, 1), 0);
        x.rule(3);
        C.due("by few words", x.best(1, 0), 4);
        C.due("speech", x.best(1, 1), 0);
        LoveParts y = Checks.of("k8,9,0,0;p0,0;j0,0;");
        // heir 1 says one word more, unless heir 0 says 18
        C.due("others change their own words", y.best(0, 0), 4);
        C.due("speech", y.best(0, 1), 1800);
        y.speak(1, 2, 0);
        // weights 8w + 8 by w + 4; heir 1 has said so: 18 words get 6 (6 by 1, one left: 7)
        C.due("what was said stays", y.best(0, 0), 7);
        C.due("a part is already done", y.part(), 1);
        C.due("foretold all the same", y.best(0, 0), 7);
        C.due("what 2", y.best(0, 2), Checks.BAD);
        C.due("what -1", y.best(0, -1), Checks.BAD);
        C.due("heir 2", y.best(2, 0), Checks.BAD);
        C.due("nothing changes", y.heir(0, 2), 0);
        LoveParts z = Checks.of("k99,9,0,1;p0,0;p0,0;");
        z.speak(1, 18, 40);
        bestByTrying(z, 0);
        bestByTrying(z, 1);
        LoveParts w = Checks.of("k77,9,0,1;p4,0;j0,0;s2,2;j9,9;");
        w.speak(1, 7, 13);
        w.speak(2, 3, 29);
        for (int i = 0; i < 4; i++) {
            bestByTrying(w, i);
        }
    }

    /** Makes each speech and asks for the share it brings. */
    private static void bestByTrying(LoveParts x, int heir) {
        int most = Integer.MIN_VALUE;
        int speech = 0;
        for (int words = 0; words <= 18; words++) {
            for (int knights = 0; knights <= 40; knights++) {
                x.speak(heir, words, knights);
                int gain = x.share(heir, x.count(4)) - knights / 4;
                x.undo();
                if (gain > most) {
                    most = gain;
                    speech = 100 * words + knights;
                }
            }
        }
        C.due("best, by trying", x.best(heir, 0), most);
        C.due("speech, by trying", x.best(heir, 1), speech);
    }

    private static void promise19() {
        LoveParts x = Checks.of("k8,9,0,0;p0,0;j0,0;");
        // heir 0 has 4 as it is and could not get more; heir 1 could get 8
        C.due("rather", x.rather(), 2);
        x.rule(2);
        C.due("by heads nobody", x.rather(), 0);
        x.speak(0, 0, 3);
        C.due("three knights cost nothing", x.rather(), 0);
        x.speak(0, 0, 4);
        C.due("the fourth does", x.rather(), 1);
        C.due("no realm", new LoveParts().rather(), Checks.STATE);
    }

    private static void promise20() {
        C.due("by heads", Checks.of("k88,0,0,0;p3,0;p4,0;p5,0;p4,0;").trueRule(), 2);
        C.due("what is left is for the first", Checks.of("k90,0,0,0;p3,0;p4,0;p5,0;p4,0;").trueRule(), Checks.NONE);
        C.due("who is the truest", Checks.of("k90,0,0,0;p5,0;p4,0;p5,0;p4,0;").trueRule(), 2);
        LoveParts x = Checks.of("k90,0,0,3;q3,0;i4,0;");
        C.due("land for two alike", x.trueRule(), 2);
        x.speak(1, 0, 40);
        C.due("by what it promised", x.trueRule(), 1);
        x.speak(1, 0, 18);
        // 19 by 19 of 38: the same for both
        C.due("no less than any other", x.trueRule(), 1);
        x.speak(1, 18, 17);
        C.due("18 words are more", x.trueRule(), 2);
        C.due("nothing changes", x.heir(0, 2), 0);
        LoveParts y = Checks.of("k91,0,0,3;q3,0;i4,0;");
        y.speak(1, 0, 18);
        // 19 by 19 of 38: what is left is for the first
        C.due("one less", y.trueRule(), Checks.NONE);
        y.speak(1, 0, 19);
        C.due("by one knight more", y.trueRule(), 1);
        y.speak(0, 0, 1);
        C.due("promises of others count", y.trueRule(), Checks.NONE);
        C.due("no realm", new LoveParts().trueRule(), Checks.STATE);
    }

    private static void promise21() {
        LoveParts x = Checks.of(TWO);
        x.speak(0, 0, 10);
        x.speak(1, 0, 10);
        // 0, 1, 0: 10, 10, 5; 1, 0, 1: 15, 10, 10
        C.due("knights", x.order(3, -1), 10);
        C.due("first", x.order(3, 0), 1);
        C.due("second", x.order(3, 1), 0);
        C.due("no third", x.order(3, 2), Checks.NONE);
        C.due("no fourth", x.order(3, 3), Checks.NONE);
        C.due("one month", x.order(1, -1), 15);
        C.due("one month, first", x.order(1, 0), 1);
        C.due("of several the first", x.order(2, 0), 0);
        C.due("k 4", x.order(3, 4), Checks.BAD);
        C.due("k -2", x.order(3, -2), Checks.BAD);
        C.due("n 0", x.order(0, 0), Checks.BAD);
        C.due("n 25", x.order(25, 0), Checks.BAD);
        C.due("24 months", x.order(24, -1), 0);
        C.due("nothing changes", x.king(0), 30);
        x.part();
        x.months(1);
        // from now on, whoever is the host: heir 0 allows 5, heir 1 allows 15
        C.due("from now on", x.order(1, -1), 10);
        C.due("who", x.order(1, 0), 1);
        C.due("no realm ahead of BAD", new LoveParts().order(0, 9), Checks.STATE);
        LoveParts y = Checks.of("k10,99,9,0;p0,0;p4,0;p2,0;p9,0;");
        C.due("two of four", y.order(2, -1), 4);
        int[] due = {1, 3, 0, 2};
        for (int k = 0; k < 4; k++) {
            C.due("order " + k, y.order(2, k), due[k]);
        }
        y.speak(0, 0, 30);
        // the one month of heir 0 brings 30; the others follow by love: 9, 4, 2
        C.due("three of four", y.order(3, -1), 4);
        int[] three = {0, 1, 3, 2};
        for (int k = 0; k < 4; k++) {
            C.due("order " + k, y.order(3, k), three[k]);
        }
    }

    private static void promise22() {
        LoveParts x = Checks.of(TWO);
        x.speak(0, 0, 20);
        x.speak(1, 0, 18);
        int[] knights = {30, 20, 20, 15, 15, 10, 10, 5, 5, 0};
        int[] broken = {0, 0, 0, 1, 1, 2, 3, 4, 5, 6};
        for (int n = 0; n < knights.length; n++) {
            C.due("ahead " + n, x.ahead(n, 0), knights[n]);
            C.due("broken ahead " + n, x.ahead(n, 1), broken[n]);
        }
        C.due("60", x.ahead(60, 0), 0);
        C.due("61", x.ahead(61, 0), Checks.BAD);
        C.due("-1", x.ahead(-1, 0), Checks.BAD);
        C.due("what 2", x.ahead(1, 2), Checks.BAD);
        C.due("what -1", x.ahead(1, -1), Checks.BAD);
        C.due("no realm ahead of BAD", new LoveParts().ahead(61, 2), Checks.STATE);
        C.due("nothing changes", x.king(2), 0);
        x.part();
        x.months(3);
        C.due("from now on", x.ahead(3, 0), knights[6]);
        C.due("with what was broken", x.ahead(3, 1), broken[6]);
    }

    private static void promise23() {
        LoveParts x = Checks.of("k10,30,5,0;p2,0;p5,0;");
        x.speak(0, 0, 20);
        x.speak(1, 0, 18);
        C.due("now", x.down(31), 0);
        C.due("not now", x.down(30), 1);
        C.due("22", x.down(22), 3);
        C.due("2 stays", x.down(2), Checks.NONE);
        C.due("3", x.down(3), 9);
        C.due("0", x.down(0), Checks.BAD);
        C.due("100", x.down(100), Checks.BAD);
        C.due("99", x.down(99), 0);
        C.due("no realm ahead of BAD", new LoveParts().down(0), Checks.STATE);
        LoveParts y = Checks.of("k10,40,1,0;p0,0;p9,0;");
        y.speak(0, 0, 30);
        y.speak(1, 0, 40);
        // heir 0 allows 30 less the months it had: below 1 at its 31st, which is the month 61
        C.due("60 at most", y.down(1), Checks.NONE);
        C.due("its 30th is the month 59", y.down(2), 59);
        y.part();
        y.months(1);
        C.due("60 from now on", y.down(1), 60);
    }

    private static void promise24() {
        LoveParts x = Checks.of(TWO);
        x.speak(0, 0, 10);
        Checks.fill(x, 0, 0, 77, 12, 5, 5);
        C.due("12 by love 2, 5 by the other", x.loves(0, 0, 1, 2, 0), 1);
        C.due("the least", x.loves(0, 0, 1, 2, 1), 2);
        C.due("the third month by 5 and 2", x.loves(0, 0, 1, 3, 0), 1);
        C.due("of the other: no such", x.loves(1, 0, 1, 2, 0), 0);
        C.due("none is least", x.loves(1, 0, 1, 2, 1), Checks.NONE);
        Checks.fill(x, 1, 2, 10, 10, 5);
        // heir 1 allows 10 or more by no love; 9 at most
        C.due("none", x.loves(1, 1, 0, 2, 0), 0);
        C.due("the first month is the other's", x.loves(1, 1, 0, 1, 0), 10);
        C.due("least of all", x.loves(1, 1, 0, 1, 1), 0);
        Checks.fill(x, 2, 1, 10, 5, 5);
        C.due("heir 1: 5 only", x.loves(1, 2, 0, 3, 0), 1);
        C.due("least", x.loves(1, 2, 0, 3, 1), 5);
        C.due("its love stays", x.heir(1, 0), 5);
        C.due("n 0", x.loves(1, 2, 0, 0, 0), Checks.BAD);
        C.due("n 13", x.loves(1, 2, 0, 13, 0), Checks.BAD);
        C.due("what 2", x.loves(1, 2, 0, 1, 2), Checks.BAD);
        C.due("heir 2", x.loves(2, 2, 0, 1, 0), Checks.BAD);
        C.due("row 8", x.loves(1, 8, 0, 1, 0), Checks.BAD);
        C.due("missing", x.loves(1, 7, -1, 1, 0), Checks.NULL);
        C.due("status NULL", x.status(), 1);
        C.due("BAD ahead of it", x.loves(1, 7, 0, 13, 0), Checks.BAD);
        C.due("status yet", x.status(), 1);
        C.due("beyond", x.loves(1, 2, 1, 3, 0), Checks.PLACE);
        C.due("status PLACE", x.status(), 2);
        C.due("i -1", x.loves(1, 2, -1, 1, 0), Checks.PLACE);
        C.due("i far", x.loves(1, 2, Integer.MAX_VALUE, 12, 0), Checks.PLACE);
        C.due("just to the end", x.loves(1, 2, 2, 1, 0), 0);
        C.due("status 0", x.status(), 0);
        x.row(3, 0, 12);
        C.due("12 months", x.loves(1, 3, 0, 12, 0), 0);
    }

    private static void promise25() {
        LoveParts x = Checks.of("k10,5,0,3;p9,0;i9,0;");
        // by 0 and 1: 10 by 1 of 11; by 3: 10 by 19 of 29
        Checks.fill(x, 0, 2, 1, 10, 0, 3, 7, 5, 5);
        C.due("words", x.map(0, 1), 3);
        C.due("few words", x.map(0, 3), 8);
        C.due("heads", x.map(0, 5), 4);
        C.due("none", x.map(0, 0), 0);
        C.due("beyond", x.map(0, 6), Checks.PLACE);
        C.due("status PLACE", x.status(), 2);
        C.due("i -1", x.map(0, -1), Checks.PLACE);
        C.due("missing", x.map(1, -1), Checks.NULL);
        C.due("row 7", x.map(7, 0), Checks.NULL);
        Checks.fill(x, 2, 2, 11, 0);
        C.due("the first one's land is not so", x.map(2, 0), 0);
        C.due("missing", x.map(1, -1), Checks.NULL);
        C.due("row 8", x.map(8, 0), Checks.BAD);
        C.due("row -1", x.map(-1, 0), Checks.BAD);
        C.due("status yet", x.status(), 1);
        C.due("good", x.map(0, 5), 4);
        C.due("status 0", x.status(), 0);
        x.speak(0, 0, 9);
        // all alike but by 1
        C.due("all alike", x.map(0, 5), 13);
        C.due("by 1: 10 by 1 of 11", x.map(0, 1), 2);
        C.due("no realm ahead of BAD", new LoveParts().map(8, 0), Checks.STATE);
        C.due("no realm ahead of NULL", new LoveParts().map(0, 0), Checks.STATE);
    }

    private static void promise26() {
        LoveParts x = Checks.of("k99,5,0,0;p5,0;p3,6;");
        x.speak(0, 5, 0);
        // heir 1: plain 3, schooled 9, joint 6, silent 0, ironic 6; by 6 of heir 0
        Checks.fill(x, 0, 0, 60, 39);
        C.due("plain: 59 and one left by 39", x.who(1, 0, 0), 2);
        Checks.fill(x, 0, 0, 37, 62);
        C.due("schooled: 37 by 61 and one left", x.who(1, 0, 0), 4);
        Checks.fill(x, 0, 0, 45, 54);
        C.due("joint or ironic: 45 by 53 and one left", x.who(1, 0, 0), 40);
        Checks.fill(x, 0, 0, 85, 14);
        C.due("silent: 84 and one left by 14", x.who(1, 0, 0), 16);
        Checks.fill(x, 0, 0, 60, 38);
        C.due("nobody", x.who(1, 0, 0), 0);
        Checks.fill(x, 0, 0, 61, 39);
        C.due("nobody, by the first one's land", x.who(1, 0, 0), 0);
        C.due("row 7", x.who(1, 7, 0), Checks.NULL);
        Checks.fill(x, 0, 0, 7, 60, 39);
        C.due("who has spoken may be any", x.who(0, 0, 1), 62);
        C.due("its kind stays", x.kind(1), 1);
        C.due("beyond", x.who(1, 0, 2), Checks.PLACE);
        C.due("status PLACE", x.status(), 2);
        C.due("i -1", x.who(1, 0, -1), Checks.PLACE);
        C.due("missing", x.who(1, 1, -1), Checks.NULL);
        C.due("heir 2", x.who(2, 1, 0), Checks.BAD);
        C.due("row 8", x.who(1, 8, 0), Checks.BAD);
        C.due("status yet", x.status(), 1);
        x.rule(2);
        Checks.fill(x, 0, 0, 50, 49);
        C.due("by the rule that is: any", x.who(1, 0, 0), 62);
        C.due("status 0", x.status(), 0);
    }

    private static void fraction(LoveParts x, int heir, int p, long above, long below) {
        C.due("odds " + heir + " by " + p + ", above", x.odds(heir, p, 0), above);
        C.due("odds " + heir + " by " + p + ", below", x.odds(heir, p, 1), below);
    }

    private static void promise27() {
        LoveParts x = Checks.of(TWO);
        fraction(x, 0, 3, 0, 1);
        fraction(x, 1, 3, 1, 1);
        x.speak(0, 9, 0);
        fraction(x, 0, 3, 3, 10);
        fraction(x, 1, 3, 7, 10);
        fraction(x, 0, 5, 1, 2);
        fraction(x, 0, 0, 0, 1);
        fraction(x, 0, 10, 1, 1);
        x.speak(1, 9, 0);
        fraction(x, 1, 4, 6, 25);
        fraction(x, 0, 4, 19, 25);
        x.rule(1);
        x.speak(1, 9, 8);
        // promises stay, so heir 0 has more only if it means 9 and heir 1 does not: 10 by 9
        fraction(x, 0, 4, 6, 25);
        LoveParts y = Checks.of("k10,5,0,0;p9,0;j0,0;");
        y.speak(0, 9, 0);
        // a joint one speaks behind one who does not mean it, too
        fraction(y, 1, 5, 1, 1);
        fraction(y, 0, 5, 0, 1);
        LoveParts z = Checks.of("k99,5,0,0;p9,0;p9,0;p9,0;p9,0;");
        for (int i = 0; i < 4; i++) {
            z.speak(i, 1, 0);
        }
        // heir 3 has most alone if it alone means it
        fraction(z, 3, 1, 729, 10000);
        fraction(z, 0, 1, 1000 + 6561, 10000);
        C.due("p 11", z.odds(0, 11, 0), Checks.BAD);
        C.due("p -1", z.odds(0, -1, 0), Checks.BAD);
        C.due("what 2", z.odds(0, 1, 2), Checks.BAD);
        C.due("what -1", z.odds(0, 1, -1), Checks.BAD);
        C.due("heir 4", z.odds(4, 1, 0), Checks.BAD);
        C.due("nothing changes", z.heir(0, 3), 1);
    }

    private static void promise28() {
        LoveParts x = Checks.of("k10,60,9,0;p0,0;p0,0;p0,0;");
        x.speak(0, 0, 10);
        x.speak(1, 0, 40);
        x.speak(2, 0, 25);
        // by seed 1: 16807, 282475249, 1622650073, 984943658, 1144108930: hosts 1, 1, 2, 2, 1
        int[] knights = {60, 40, 31, 25, 16, 16};
        int[] broken = {0, 0, 1, 1, 2, 3};
        for (int n = 0; n < knights.length; n++) {
            C.due("drawn " + n, x.drawn(n, 1, 0), knights[n]);
            C.due("broken by draws " + n, x.drawn(n, 1, 1), broken[n]);
        }
        x.part();
        x.months(1);
        C.due("the host of now does not count", x.drawn(1, 1, 0), 10);
        C.due("0 months", x.drawn(0, 1, 0), 10);
        C.due("60 months", x.drawn(60, 999999, 0), 0);
        C.due("nothing changes", x.king(1), 1);
        C.due("61 months", x.drawn(61, 1, 0), Checks.BAD);
        C.due("-1 months", x.drawn(-1, 1, 0), Checks.BAD);
        C.due("seed 0", x.drawn(1, 0, 0), Checks.BAD);
        C.due("seed 1000000", x.drawn(1, 1000000, 0), Checks.BAD);
        C.due("what 2", x.drawn(1, 1, 2), Checks.BAD);
        C.due("no realm ahead of BAD", new LoveParts().drawn(61, 0, 2), Checks.STATE);
    }

    private static void promises29And30() {
        LoveParts x = new LoveParts();
        C.due("2", x.image(2), Checks.BAD);
        C.due("-1", x.image(-1), Checks.BAD);
        C.due("no realm", x.image(0), Checks.STATE);
        C.due("restore 2", x.restore(2), Checks.BAD);
        C.due("restore -1", x.restore(-1), Checks.BAD);
        C.due("none was kept", x.restore(0), Checks.STATE);
        Checks.tell(x, FOUR);
        x.realm();
        x.speak(0, 11, 12);
        C.due("image", x.image(1), 1);
        C.due("the other one was not kept", x.restore(0), Checks.STATE);
        x.letter(1, 0);
        x.part();
        x.months(3);
        C.due("the other", x.image(0), 1);
        C.due("acts stay by an image", x.count(7), 6);
        Checks.tell(x, TWO);
        x.realm();
        x.rule(3);
        C.due("restored", x.restore(1), 1);
        C.due("heirs", x.count(1), 4);
        C.due("land", x.count(2), 90);
        C.due("rule", x.count(4), 0);
        C.due("kind", x.kind(3), 5);
        C.due("said", x.heir(0, 3), 11);
        C.due("allowed, no letter", x.heir(0, 6), 15);
        C.due("not parted", x.king(2), 0);
        C.due("no act", x.count(7), 0);
        C.due("none can be undone", x.undo(), Checks.STATE);
        x.speak(0, 1, 1);
        C.due("an image stays as it is", x.restore(1), 1);
        C.due("said", x.heir(0, 3), 11);
        C.due("the other", x.restore(0), 1);
        C.due("months", x.count(5), 3);
        C.due("host", x.king(1), 3);
        C.due("knights", x.king(0), 5);
        C.due("parted", x.king(2), 1);
        C.due("a letter", x.heir(0, 6), 5);
        C.due("land of one", x.heir(2, 5), 29);
        C.due("broken", x.heir(0, 8), 1);
        C.due("had the king", x.heir(0, 7), 1);
        Checks.tell(x, TWO);
        x.realm();
        C.due("kept anew", x.image(0), 1);
        x.restore(1);
        x.restore(0);
        C.due("heirs", x.count(1), 2);
    }
}
