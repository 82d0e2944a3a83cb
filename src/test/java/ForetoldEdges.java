import java.util.List;
import java.util.function.ToLongFunction;

/** Edges of the promises 17 to 30, and of what 'Terms' tell of what is foretold. */
final class ForetoldEdges {
    private static final int FAR = Integer.MAX_VALUE, LOW = Integer.MIN_VALUE;
    private final Sentences s;

    ForetoldEdges(Sentences s) {
        this.s = s;
    }

    void run() {
        nothingChanges();
        shareRefused();
        bestAtTheEdges();
        bestRefused();
        ratherNobodyAll();
        trueRules();
        orders();
        orderRefused();
        ahead();
        downAtTheEdges();
        downRefused();
        lovesAtTheEdges();
        lovesRefused();
        mapAtTheEdges();
        mapRefused();
        whoAtTheEdges();
        whoRefused();
        oddsAtTheEdges();
        oddsRefused();
        drawnAtTheEdges();
        drawnRefused();
        images();
        restored();
    }

    private static LoveParts two() {
        return Checks.of(Scenes.TWO);
    }

    private static LoveParts old() {
        return Scenes.gone(999);
    }

    /** By a realm that is not parted, by one that is, and by one whose last month is gone. */
    private void nothingChanges() {
        s.term(3, "FORETOLD (nothing changes).");
        // says 3, 10, 11, 7: weights 16, 9, 8, 12 of 45
        s.leavesAll("share", Scenes::told, x -> x.share(1, 3), 18, Scenes.STATUS);
        s.leavesAll("best", Scenes::told, x -> x.best(1, 0) > 0 ? 1 : 0, 1, Scenes.STATUS);
        s.leavesAll("best of the parted", Scenes::parted, x -> x.best(3, 1) > 0 ? 1 : 0, 1, Scenes.STATUS);
        s.leavesAll("rather", Scenes::told, x -> x.rather() > 0 ? 1 : 0, 1, Scenes.STATUS);
        s.leavesAll("trueRule", Scenes::parted, LoveParts::trueRule, Checks.NONE, Scenes.STATUS);
        s.leavesAll("order", Scenes::told, x -> x.order(24, -1), 2, Scenes.STATUS);
        s.leavesAll("order of the parted", Scenes::parted, x -> x.order(1, 0), 0, Scenes.STATUS);
        s.leavesAll("ahead", Scenes::told, x -> x.ahead(60, 0), 2, Scenes.STATUS);
        s.leavesAll("ahead behind the last month", ForetoldEdges::old, x -> x.ahead(60, 0), 2, Scenes.STATUS);
        s.leavesAll("down", Scenes::told, x -> x.down(1), Checks.NONE, Scenes.STATUS);
        s.leavesAll("loves", Scenes::told, x -> x.loves(0, 0, 2, 1, 1), 3, 0);
        s.leavesAll("map", Scenes::told, x -> x.map(2, 0), 0, 0);
        s.leavesAll("who", Scenes::parted, x -> x.who(3, 0, 1), 0, 0);
        s.leavesAll("odds", Scenes::told, x -> x.odds(0, 5, 1), 1, Scenes.STATUS);
        s.leavesAll("drawn", Scenes::told, x -> x.drawn(60, 1, 0), 2, Scenes.STATUS);
        s.leavesAll("drawn behind the last month", ForetoldEdges::old, x -> x.drawn(60, 999999, 0), 2, Scenes.STATUS);
    }

    private void shareRefused() {
        s.term(3, "SHARE of one by a RULE (0 to 3): what it would get now.");
        LoveParts x = Checks.of("k99,0,0,2;p0,0;p0,0;");
        x.speak(1, 18, 40);
        int[] last = {95, 98, 49, 4};
        for (int by = 0; by <= 3; by++) {
            s.due("by " + by, x.share(1, by), last[by]);
            s.due("the other by " + by, x.share(0, by), 99 - last[by]);
        }
        s.promise(17, "SHARE. BAD.");
        s.refuses("rule -1", Scenes::told, y -> y.share(0, -1), Checks.BAD);
        s.refuses("rule 4", Scenes::told, y -> y.share(0, 4), Checks.BAD);
        s.refuses("heir -1", Scenes::told, y -> y.share(-1, 0), Checks.BAD);
        s.refuses("heir 4", Scenes::told, y -> y.share(4, 0), Checks.BAD);
        s.refuses("heir 2 of two", ForetoldEdges::two, y -> y.share(2, 0), Checks.BAD);
        s.refuses("no realm", Scenes::noRealm, y -> y.share(0, 0), Checks.BAD);
        s.refuses("the least", Scenes::told, y -> y.share(LOW, LOW), Checks.BAD);
    }

    private void bestIs(LoveParts x, int heir, int howMuch, int speech) {
        s.due("how much for " + heir, x.best(heir, 0), howMuch);
        s.due("the speech of " + heir, x.best(heir, 1), speech);
    }

    private void bestAtTheEdges() {
        s.term(3, "BEST speech of one (words 0 to 18, knights 0 to 40)");
        LoveParts x = Checks.of("k86,0,0,1;p0,0;p0,0;p4,0;p5,0;");
        x.speak(1, 18, 40);
        // 59, 59, 5, 6 of 129: 39, 39, 3, 4, what is left is for the first; by 39 knights 38 less 9
        bestIs(x, 0, 30, 1840);
        LoveParts y = Checks.of("k99,0,0,0;p0,0;p9,0;");
        // 19 by 10 of 29: 64, and one is left
        bestIs(y, 0, 65, 1800);
        s.term(3, "less a fourth of the knights (cut), is most");
        LoveParts z = Checks.of("k8,0,0,1;p0,0;p0,0;");
        // against 1 a weight of 8 is the first to have it all: three knights cost nothing
        bestIs(z, 0, 8, 403);
        s.term(3, "of several the first (least words, then least knights)");
        LoveParts one = Checks.of("k1,0,0,1;p0,0;p0,0;");
        bestIs(one, 0, 1, 0);
        bestIs(one, 1, 1, 1);
        LoveParts heads = Checks.of("k9,0,0,2;p0,0;p0,0;");
        bestIs(heads, 0, 5, 0);
        bestIs(heads, 1, 4, 0);
        LoveParts few = Checks.of("k9,0,0,3;p9,0;p9,0;");
        // 19 by 10 of 29: 5, and one is left; 18 by 10 of 28 is the same, but more words
        bestIs(few, 0, 6, 0);
        s.term(3, "all others as they SAY now (OWN words of others change by what it SAYS)");
        LoveParts joint = Checks.of("k8,0,0,0;p0,0;j0,0;");
        // the joint one says more, but no more than 18
        bestIs(joint, 0, 4, 1800);
        bestIs(joint, 1, 8, 700);
    }

    private void bestRefused() {
        s.promise(18, "BEST: how much (what = 0), the speech (1). BAD.");
        s.refuses("what -1", Scenes::told, x -> x.best(0, -1), Checks.BAD);
        s.refuses("what 2", Scenes::told, x -> x.best(0, 2), Checks.BAD);
        s.refuses("heir -1", Scenes::told, x -> x.best(-1, 0), Checks.BAD);
        s.refuses("heir 4", Scenes::told, x -> x.best(4, 0), Checks.BAD);
        s.refuses("heir 2 of two", ForetoldEdges::two, x -> x.best(2, 1), Checks.BAD);
        s.refuses("no realm", Scenes::noRealm, x -> x.best(0, 0), Checks.BAD);
    }

    private void ratherNobodyAll() {
        s.term(3, "RATHER: heirs (bits) who have that more by their BEST speech than as they SAY now.");
        LoveParts x = Checks.of("k8,0,0,2;p0,0;p0,0;p0,0;p0,0;");
        s.due("nobody", x.rather(), 0);
        for (int i = 0; i < 4; i++) {
            x.speak(i, 0, 3);
        }
        s.due("three knights cost nothing", x.rather(), 0);
        for (int i = 0; i < 4; i++) {
            x.speak(i, 0, 4);
            s.due("up to " + i, x.rather(), (2 << i) - 1);
        }
        x.speak(0, 18, 0);
        s.due("just as good as the best", x.rather(), 14);
        s.promise(19, "RATHER. STATE: no REALM.");
        s.refuses("no realm", Scenes::noRealm, LoveParts::rather, Checks.STATE);
        s.refuses("a new object", LoveParts::new, LoveParts::rather, Checks.STATE);
    }

    private void trueRules() {
        s.term(3, "the one with the greatest LOVE (of several the first) gets no less than any other one, "
            + "whatever words 0, 6, 12, 18 each SAYS, PROMISED as now; NONE.");
        s.due("the first of several", Checks.of("k3,0,0,0;p4,0;p4,0;").trueRule(), 2);
        s.due("the second, and one is left for the first", Checks.of("k3,0,0,0;p4,0;p5,0;").trueRule(), Checks.NONE);
        s.due("the second, and none is left", Checks.of("k2,0,0,0;p4,0;p5,0;").trueRule(), 2);
        LoveParts x = Checks.of("k38,0,0,0;p0,0;p1,0;");
        x.speak(1, 0, 18);
        s.due("18 knights stand for 18 words: no less", x.trueRule(), 1);
        x.speak(1, 0, 17);
        s.due("17 do not", x.trueRule(), 2);
        LoveParts y = Checks.of("k38,0,0,3;p0,0;p1,0;");
        y.speak(1, 0, 40);
        y.speak(0, 0, 22);
        s.due("40 against 22 and 18 words", y.trueRule(), 1);
        y.speak(0, 0, 23);
        s.due("40 against 23 and 18 words", y.trueRule(), 2);
        wordsOfEachCount();
        s.promise(20, "TRUE RULE; NONE. STATE: no REALM.");
        s.refuses("no realm", Scenes::noRealm, LoveParts::trueRule, Checks.STATE);
    }

    /** One rival of the truest, whose words alone stand against 40 knights. */
    private void wordsOfEachCount() {
        for (int rival = 1; rival < 4; rival++) {
            LoveParts x = Checks.of("k39,0,0,0;p9,0;p0,0;p0,0;p0,0;");
            x.speak(0, 0, 40);
            x.speak(rival, 0, 22);
            s.due("40 against 22 and 18 words of " + rival, x.trueRule(), 1);
            x.speak(rival, 0, 40);
            s.due("40 against 40 and 18 words of " + rival, x.trueRule(), 2);
        }
    }

    private void orders() {
        s.term(3, "ORDER for n MONTHS (1 to 24)");
        LoveParts x = two();
        s.due("1", x.order(1, -1), 5);
        s.due("by the second", x.order(1, 0), 1);
        s.due("24", x.order(24, -1), 0);
        s.refuses("0", Scenes::told, y -> y.order(0, -1), Checks.BAD);
        s.refuses("25", Scenes::told, y -> y.order(25, -1), Checks.BAD);
        s.refuses("-1", Scenes::told, y -> y.order(-1, -1), Checks.BAD);
        s.refuses("the most", Scenes::told, y -> y.order(FAR, -1), Checks.BAD);
        s.term(3, "of several the first (by numbers): how many; the k-th");
        for (int k = 0; k < 2; k++) {
            s.due("alike: by numbers " + k, x.order(2, k), k);
        }
        LoveParts four = Checks.of("k1,0,0,0;p0,0;p0,0;p0,0;p0,0;");
        for (int k = 0; k < 4; k++) {
            s.due("no knights: by numbers " + k, four.order(24, k), k);
        }
        LoveParts last = Checks.of("k1,99,0,0;p0,0;p1,0;p2,0;p3,0;");
        int[] due = {3, 0, 1, 2};
        for (int k = 0; k < 4; k++) {
            s.due("the last is the first: " + k, last.order(1, k), due[k]);
        }
        s.term(3, "from now on (over and over again)");
        LoveParts again = Checks.of("k1,99,9,0;p0,0;p0,0;");
        again.speak(0, 0, 18);
        again.speak(1, 0, 9);
        // two months of the first and one of the second leave 9; the other way round the second would have 0
        s.due("the first comes again", again.order(3, -1), 9);
        s.due("it begins", again.order(3, 0), 0);
    }

    private void orderRefused() {
        s.promise(21, "ORDER: KNIGHTS (k = -1), the k-th (0 on); NONE: no such one.");
        LoveParts three = Checks.of("k1,9,0,0;p0,0;p0,0;p0,0;");
        s.due("2 of three", three.order(1, 2), 2);
        s.due("3 of three", three.order(1, 3), Checks.NONE);
        s.due("2 of two", two().order(1, 2), Checks.NONE);
        s.due("3 of two", two().order(1, 3), Checks.NONE);
        s.due("3 of four", Checks.of("k1,9,0,0;p0,0;p0,0;p0,0;p0,0;").order(1, 3), 3);
        s.promise(21, "BAD: k not -1 to 3; STATE: no REALM (ahead of BAD).");
        s.refuses("-2", Scenes::told, x -> x.order(1, -2), Checks.BAD);
        s.refuses("4", Scenes::told, x -> x.order(1, 4), Checks.BAD);
        s.refuses("4 of two", ForetoldEdges::two, x -> x.order(1, 4), Checks.BAD);
        s.refuses("no such one, but n is BAD", ForetoldEdges::two, x -> x.order(0, 3), Checks.BAD);
        s.refuses("no realm", Scenes::noRealm, x -> x.order(1, 0), Checks.STATE);
        s.refuses("no realm, -2", Scenes::noRealm, x -> x.order(1, -2), Checks.STATE);
        s.refuses("no realm, 25 months", Scenes::noRealm, x -> x.order(25, 0), Checks.STATE);
    }

    private void ahead() {
        s.term(3, "AHEAD by n MONTHS (0 to 60), parted now if it is not");
        LoveParts x = Checks.of("k1,99,1,0;p0,0;p0,0;");
        x.speak(0, 0, 40);
        x.speak(1, 0, 40);
        s.due("0: now", x.ahead(0, 0), 99);
        s.due("0: none broken", x.ahead(0, 1), 0);
        s.due("1", x.ahead(1, 0), 40);
        s.due("60: each had 30", x.ahead(60, 0), 11);
        s.due("60: broken but the first of each", x.ahead(60, 1), 58);
        x.part();
        x.months(3);
        s.due("parted: 0", x.ahead(0, 0), 39);
        s.due("parted: broken till now", x.ahead(0, 1), 1);
        s.due("parted: 60 from now on", x.ahead(60, 1), 61);
        s.promise(22, "AHEAD: KNIGHTS (what = 0), how often BROKEN (1). BAD; STATE: no REALM (ahead of BAD).");
        s.refuses("-1", Scenes::told, y -> y.ahead(-1, 0), Checks.BAD);
        s.refuses("61", Scenes::told, y -> y.ahead(61, 0), Checks.BAD);
        s.refuses("what -1", Scenes::told, y -> y.ahead(0, -1), Checks.BAD);
        s.refuses("what 2", Scenes::told, y -> y.ahead(0, 2), Checks.BAD);
        s.refuses("the most", Scenes::told, y -> y.ahead(FAR, 0), Checks.BAD);
        s.refuses("no realm", Scenes::noRealm, y -> y.ahead(0, 0), Checks.STATE);
        s.refuses("no realm, 61", Scenes::noRealm, y -> y.ahead(61, 0), Checks.STATE);
        s.refuses("no realm, what", Scenes::noRealm, y -> y.ahead(0, 2), Checks.STATE);
    }

    private void downAtTheEdges() {
        s.term(3, "DOWN: behind how many MONTHS (0: now; 60 at most) KNIGHTS are fewer than a number (1 to 99); NONE.");
        LoveParts x = Checks.of("k1,40,1,0;p0,0;p9,0;");
        x.speak(0, 0, 30);
        x.speak(1, 0, 40);
        s.due("99", x.down(99), 0);
        s.due("41: now", x.down(41), 0);
        s.due("40: as many are not fewer", x.down(40), 1);
        // the first allows 30, 29, .. in the months 1, 3, ..: 1 in the month 59, none in the month 61
        s.due("month 59", x.down(2), 59);
        s.due("month 61 is too late", x.down(1), Checks.NONE);
        x.part();
        x.months(1);
        s.due("from now on it is month 60", x.down(1), 60);
        s.due("no knights: now", Checks.of("k1,0,0,0;p0,0;p0,0;").down(1), 0);
        s.due("99 knights, for ever", downNever().down(40), Checks.NONE);
        s.due("99 knights, not fewer than 99", downNever().down(99), 1);
    }

    private static LoveParts downNever() {
        LoveParts x = Checks.of("k1,99,0,0;p0,0;p0,0;");
        x.speak(0, 0, 40);
        x.speak(1, 0, 40);
        return x;
    }

    private void downRefused() {
        s.promise(23, "DOWN; NONE. BAD; STATE: no REALM (ahead of BAD).");
        s.refuses("0", Scenes::told, x -> x.down(0), Checks.BAD);
        s.refuses("100", Scenes::told, x -> x.down(100), Checks.BAD);
        s.refuses("-1", Scenes::told, x -> x.down(-1), Checks.BAD);
        s.refuses("no realm", Scenes::noRealm, x -> x.down(1), Checks.STATE);
        s.refuses("no realm, 0", Scenes::noRealm, x -> x.down(0), Checks.STATE);
        s.refuses("no realm, 100", Scenes::noRealm, x -> x.down(100), Checks.STATE);
    }

    private void loves(LoveParts x, int heir, int n, int howMany, int least) {
        s.due("how many for " + heir, x.loves(heir, 0, 0, n, 0), howMany);
        s.due("the least for " + heir, x.loves(heir, 0, 0, n, 1), least);
    }

    private void lovesAtTheEdges() {
        s.term(3, "LOVES: a row tells KNIGHTS behind each of n MONTHS (1 to 12) from now on: LOVES (0 to 9) of one by which "
            + "it is so (parted now, if it is not): how many; the least; NONE.");
        LoveParts x = Checks.of("k1,9,0,0;p5,0;p9,0;");
        Checks.fill(x, 0, 0, 9);
        loves(x, 0, 1, 1, 9);
        loves(x, 1, 1, 0, (int) Checks.NONE);
        Checks.fill(x, 0, 0, 0);
        loves(x, 0, 1, 1, 0);
        Checks.fill(x, 0, 0, 5);
        loves(x, 0, 1, 1, 5);
        loves(x, 1, 1, 10, 0);
        Checks.fill(x, 0, 2, 5, 5);
        loves(x, 1, 2, 5, 5);
        Checks.fill(x, 0, 0, -1);
        loves(x, 0, 1, 0, (int) Checks.NONE);
        Checks.fill(x, 0, 2, 256 + 5);
        loves(x, 0, 1, 0, (int) Checks.NONE);
        Checks.fill(x, 0, 0, 5, 5, 5, 5, 5, 5, 5, 5, 5, 5, 5, 5);
        loves(x, 1, 12, 5, 5);
        Checks.fill(x, 0, 0, 5, 5, 5, 5, 5, 5, 5, 5, 5, 5, 5, 4);
        loves(x, 1, 12, 0, (int) Checks.NONE);
        loves(x, 1, 11, 5, 5);
    }

    private void lovesRefused() {
        s.promise(24, "BAD: HEIR, ROW, n, what; NULL; PLACE.");
        s.refuses("heir -1", Scenes::told, x -> x.loves(-1, 0, 0, 1, 0), Checks.BAD);
        s.refuses("heir 4", Scenes::told, x -> x.loves(4, 0, 0, 1, 0), Checks.BAD);
        s.refuses("no realm", Scenes::noRealm, x -> x.loves(0, 0, 0, 1, 0), Checks.BAD);
        s.refuses("row -1", Scenes::told, x -> x.loves(0, -1, 0, 1, 0), Checks.BAD);
        s.refuses("row 8", Scenes::told, x -> x.loves(0, 8, 0, 1, 0), Checks.BAD);
        s.refuses("n 0", Scenes::told, x -> x.loves(0, 2, 0, 0, 0), Checks.BAD);
        s.refuses("n 13", Scenes::told, x -> x.loves(0, 2, 0, 13, 0), Checks.BAD);
        s.refuses("n -1", Scenes::told, x -> x.loves(0, 2, 5, -1, 0), Checks.BAD);
        s.refuses("what -1", Scenes::told, x -> x.loves(0, 2, 0, 1, -1), Checks.BAD);
        s.refuses("what 2", Scenes::told, x -> x.loves(0, 2, 0, 1, 2), Checks.BAD);
        s.refuses("missing", Scenes::told, x -> x.loves(0, 4, 0, 1, 0), Checks.NULL);
        s.refuses("the last one, missing", Scenes::told, x -> x.loves(0, 7, 0, 12, 1), Checks.NULL);
        s.promise(24, "LOVES, n ITEMS of a ROW from i on");
        s.leavesAll("just to the end", Scenes::told, x -> x.loves(0, 2, 28, 12, 0), 0, 0);
        s.leavesAll("the last one", Scenes::told, x -> x.loves(0, 2, 39, 1, 0), 1, 0);
        s.refuses("one beyond the end", Scenes::told, x -> x.loves(0, 2, 29, 12, 0), Checks.PLACE);
        s.refuses("behind the last one", Scenes::told, x -> x.loves(0, 2, 40, 1, 0), Checks.PLACE);
        s.refuses("i -1", Scenes::told, x -> x.loves(0, 2, -1, 1, 0), Checks.PLACE);
        s.refuses("i most, which wraps around", Scenes::told, x -> x.loves(0, 2, FAR, 12, 0), Checks.PLACE);
        s.refuses("i least", Scenes::told, x -> x.loves(0, 2, LOW, 12, 0), Checks.PLACE);
        s.refuses("an empty row", Scenes::told, x -> x.loves(0, 3, 0, 1, 0), Checks.PLACE);
        s.refuses("beyond, though the first one is not so", Scenes::told, x -> x.loves(0, 0, 0, 6, 0), Checks.PLACE);
    }

    private void mapAtTheEdges() {
        s.term(3, "MAP: a row tells LAND of all HEIRS: RULES (bits) by which SHARES are so now.");
        LoveParts x = Checks.of("k11,0,0,0;p9,0;p9,0;");
        Checks.fill(x, 0, 0, 6, 5, 6, 5, 5);
        s.due("all", x.map(0, 0), 15);
        s.due("none", x.map(0, 1), 0);
        s.due("none, the first is not so", x.map(0, 3), 0);
        x.speak(0, 9, 40);
        s.due("all but 1", x.map(0, 0), 13);
        x.speak(0, 8, 1);
        // 9 by 10 of 19: 5 by 6; 10 by 10; 1 by 1; 11 by 10 of 21: 5, and one is left
        s.due("all but 0", x.map(0, 0), 14);
        s.due("0 only", x.map(0, 1), 1);
        Checks.fill(x, 0, 2, 256 + 6, 5, 6, -251);
        s.due("more bits than a byte has", x.map(0, 0), 0);
        s.due("the last is not so", x.map(0, 2), 0);
    }

    private void mapRefused() {
        s.promise(25, "MAP, as many ITEMS as HEIRS of a ROW from i on.");
        s.leavesAll("just to the end", Scenes::told, x -> x.map(2, 36), 0, 0);
        s.refuses("one beyond the end", Scenes::told, x -> x.map(2, 37), Checks.PLACE);
        s.leavesAll("five items", Scenes::told, x -> x.map(0, 1), 0, 0);
        s.refuses("five items, from 2 on", Scenes::told, x -> x.map(0, 2), Checks.PLACE);
        s.refuses("three items for four", Scenes::told, x -> x.map(1, 0), Checks.PLACE);
        s.promise(25, "BAD: ROW; STATE: no REALM (ahead of BAD); NULL; PLACE.");
        s.refuses("row -1", Scenes::told, x -> x.map(-1, 0), Checks.BAD);
        s.refuses("row 8", Scenes::told, x -> x.map(8, 0), Checks.BAD);
        s.refuses("no realm", Scenes::noRealm, x -> x.map(0, 0), Checks.STATE);
        s.refuses("no realm, row 8", Scenes::noRealm, x -> x.map(8, 0), Checks.STATE);
        s.refuses("no realm, missing", Scenes::noRealm, x -> x.map(7, 0), Checks.STATE);
        s.refuses("no realm, no such place", Scenes::noRealm, x -> x.map(0, 9), Checks.STATE);
        s.refuses("missing", Scenes::told, x -> x.map(7, 0), Checks.NULL);
        s.refuses("an empty row", Scenes::told, x -> x.map(3, 0), Checks.PLACE);
        s.refuses("i -1", Scenes::told, x -> x.map(2, -1), Checks.PLACE);
        s.refuses("i most, which wraps around", Scenes::told, x -> x.map(2, FAR), Checks.PLACE);
        s.refuses("i least", Scenes::told, x -> x.map(2, LOW), Checks.PLACE);
    }

    private void whoAtTheEdges() {
        s.term(3, "WHO: a row tells so: KINDS (bits 1 to 5) of one by which SHARES by RULE are so.");
        LoveParts x = Checks.of("k10,0,0,2;p0,0;p0,0;");
        Checks.fill(x, 0, 0, 5, 5, 4);
        s.due("all: bits 1 to 5", x.who(0, 0, 0), 62);
        s.due("none", x.who(0, 0, 1), 0);
        x.rule(0);
        // as an ironic one it says 9: 10 by 1 of 11
        s.due("all but the ironic one", x.who(1, 0, 0), 30);
        Checks.fill(x, 0, 0, 0, 10);
        s.due("the ironic one", x.who(1, 0, 0), 32);
        x.speak(1, 0, 0);
        Checks.fill(x, 0, 0, 5, 5);
        s.due("who has SPOKEN is any", x.who(1, 0, 0), 62);
        LoveParts y = Checks.of("k39,0,0,0;p0,0;p9,9;");
        y.speak(0, 18, 0);
        Checks.fill(y, 0, 0, 20, 19);
        // 19 by 19 of 38: one is left for the first
        s.due("schooled, or joint behind 18", y.who(1, 0, 0), 12);
    }

    private void whoRefused() {
        s.promise(26, "WHO, likewise.");
        s.leavesAll("just to the end", Scenes::told, x -> x.who(0, 2, 36), 0, 0);
        s.refuses("one beyond the end", Scenes::told, x -> x.who(0, 2, 37), Checks.PLACE);
        s.refuses("three items for four", Scenes::told, x -> x.who(3, 1, 0), Checks.PLACE);
        s.promise(26, "BAD: HEIR, ROW; NULL; PLACE.");
        s.refuses("heir -1", Scenes::told, x -> x.who(-1, 0, 0), Checks.BAD);
        s.refuses("heir 4", Scenes::told, x -> x.who(4, 0, 0), Checks.BAD);
        s.refuses("no realm", Scenes::noRealm, x -> x.who(0, 0, 0), Checks.BAD);
        s.refuses("row -1", Scenes::told, x -> x.who(0, -1, 0), Checks.BAD);
        s.refuses("row 8", Scenes::told, x -> x.who(0, 8, 0), Checks.BAD);
        s.refuses("missing", Scenes::told, x -> x.who(0, 7, 0), Checks.NULL);
        s.refuses("an empty row", Scenes::told, x -> x.who(0, 3, 0), Checks.PLACE);
        s.refuses("i -1", Scenes::told, x -> x.who(0, 2, -1), Checks.PLACE);
        s.refuses("i most, which wraps around", Scenes::told, x -> x.who(0, 2, FAR), Checks.PLACE);
        s.refuses("i least", Scenes::told, x -> x.who(0, 2, LOW), Checks.PLACE);
    }

    private void odds(LoveParts x, int heir, int p, long above, long below) {
        s.due("odds " + heir + " by " + p + ", above", x.odds(heir, p, 0), above);
        s.due("odds " + heir + " by " + p + ", below", x.odds(heir, p, 1), below);
    }

    private void oddsAtTheEdges() {
        s.term(3, "ODDS by p of 10 (0 to 10): each heir who has SPOKEN means it in p of 10 cases, apart");
        LoveParts x = Checks.of("k90,0,0,0;p0,0;p0,0;p0,0;p0,0;");
        odds(x, 0, 0, 1, 1);
        odds(x, 0, 10, 1, 1);
        odds(x, 3, 10, 0, 1);
        for (int i = 0; i < 4; i++) {
            x.speak(i, 5 + i, 0);
        }
        odds(x, 3, 0, 0, 1);
        odds(x, 3, 10, 1, 1);
        odds(x, 3, 1, 1, 10);
        odds(x, 2, 1, 9, 100);
        odds(x, 1, 1, 81, 1000);
        // the first has it if it alone means it, and if nobody does: 729 and 6561 of 10000
        odds(x, 0, 1, 729, 1000);
        odds(x, 0, 9, 1, 1000);
        s.term(3, "how likely one has the greatest SHARE by RULE (of several the first): a fraction");
        LoveParts y = Checks.of("k10,0,0,2;p0,0;p9,0;");
        y.speak(1, 18, 0);
        odds(y, 0, 5, 1, 1);
        odds(y, 1, 5, 0, 1);
        s.term(3, "who does not, it is as if it had SAID 0 (PROMISED as it is)");
        LoveParts z = Checks.of("k10,0,0,1;p0,0;p9,0;");
        z.speak(0, 0, 10);
        odds(z, 0, 0, 1, 1);
        z.speak(0, 0, 8);
        odds(z, 0, 0, 0, 1);
        z.speak(0, 1, 8);
        odds(z, 0, 3, 3, 10);
        LoveParts w = Checks.of("k10,0,0,0;p0,0;p0,0;");
        w.speak(0, 5, 0);
        // 1 by 1, no less: the first of several
        odds(w, 0, 0, 1, 1);
    }

    private void oddsRefused() {
        s.promise(27, "ODDS: above (what = 0), below (1). BAD.");
        s.refuses("p -1", Scenes::told, x -> x.odds(0, -1, 0), Checks.BAD);
        s.refuses("p 11", Scenes::told, x -> x.odds(0, 11, 0), Checks.BAD);
        s.refuses("what -1", Scenes::told, x -> x.odds(0, 0, -1), Checks.BAD);
        s.refuses("what 2", Scenes::told, x -> x.odds(0, 0, 2), Checks.BAD);
        s.refuses("heir -1", Scenes::told, x -> x.odds(-1, 0, 0), Checks.BAD);
        s.refuses("heir 4", Scenes::told, x -> x.odds(4, 0, 0), Checks.BAD);
        s.refuses("no realm", Scenes::noRealm, x -> x.odds(0, 0, 0), Checks.BAD);
        s.refuses("no realm, below", Scenes::noRealm, x -> x.odds(0, 0, 1), Checks.BAD);
    }

    private void drawnAtTheEdges() {
        s.term(3, "MONTHS of n (0 to 60) by a SEED (X at first), parted now if it is not: ahead of each X becomes the rest of "
            + "(X times 16807) by 2147483647; the heir that is the rest of X by HEIRS is the host; then the MONTH");
        LoveParts x = Checks.of("k1,50,1,0;p0,0;p0,0;p0,0;");
        x.speak(0, 0, 10);
        x.speak(1, 0, 20);
        x.speak(2, 0, 30);
        s.due("0 months", x.drawn(0, 1, 0), 50);
        s.due("0 months, broken", x.drawn(0, 1, 1), 0);
        drawnAsToldByHand(x, 60, 1);
        drawnAsToldByHand(x, 60, 999999);
        drawnAsToldByHand(x, 59, 999998);
        drawnAsToldByHand(x, 1, 2);
        drawnAsToldByHand(x, 1, 999999);
        x.part();
        x.months(1);
        s.due("0 months, parted", x.drawn(0, 999999, 0), 10);
    }

    /** Three heirs without love who promise 10, 20, 30 of 50 knights, and shrink by 1. */
    private void drawnAsToldByHand(LoveParts x, int n, long seed) {
        int[] allows = {10, 20, 30};
        int knights = 50;
        int broken = 0;
        long rest = seed;
        for (int i = 0; i < n; i++) {
            rest = rest * 16807 % 2147483647L;
            int host = (int) (rest % 3);
            knights = Math.min(knights, allows[host]);
            broken += allows[host] < 10 * (host + 1) ? 1 : 0;
            allows[host] = Math.max(allows[host] - 1, 0);
        }
        s.due(n + " months by " + seed, x.drawn(n, (int) seed, 0), knights);
        s.due(n + " months by " + seed + ", broken", x.drawn(n, (int) seed, 1), broken);
    }

    private void drawnRefused() {
        s.promise(28, "MONTHS by a SEED (1 to 999999): KNIGHTS (what = 0), how often BROKEN (1). "
            + "BAD; STATE: no REALM (ahead of BAD).");
        s.refuses("seed 0", Scenes::told, x -> x.drawn(1, 0, 0), Checks.BAD);
        s.refuses("seed 1000000", Scenes::told, x -> x.drawn(1, 1000000, 0), Checks.BAD);
        s.refuses("seed -1", Scenes::told, x -> x.drawn(1, -1, 0), Checks.BAD);
        s.refuses("seed 0, no months", Scenes::told, x -> x.drawn(0, 0, 0), Checks.BAD);
        s.refuses("n -1", Scenes::told, x -> x.drawn(-1, 1, 0), Checks.BAD);
        s.refuses("n 61", Scenes::told, x -> x.drawn(61, 1, 0), Checks.BAD);
        s.refuses("what -1", Scenes::told, x -> x.drawn(1, 1, -1), Checks.BAD);
        s.refuses("what 2", Scenes::told, x -> x.drawn(1, 1, 2), Checks.BAD);
        s.refuses("no realm", Scenes::noRealm, x -> x.drawn(0, 1, 0), Checks.STATE);
        s.refuses("no realm, seed 0", Scenes::noRealm, x -> x.drawn(1, 0, 0), Checks.STATE);
        s.refuses("no realm, what 2", Scenes::noRealm, x -> x.drawn(1, 1, 2), Checks.STATE);
        s.refuses("no realm, n 61", Scenes::noRealm, x -> x.drawn(61, 1, 0), Checks.STATE);
    }

    private void images() {
        s.promise(29, "An IMAGE (0, 1) is kept of the REALM: 1.");
        LoveParts x = Scenes.parted();
        s.due("1", x.image(1), 1);
        s.due("0, in place of the one before", x.image(0), 1);
        s.due("acts can be undone yet", x.count(7), 9);
        s.due("status", x.status(), Scenes.STATUS);
        x.restore(0);
        s.due("0 is of the four", x.count(1), 4);
        s.promise(29, "BAD; STATE: no REALM.");
        s.refuses("-1", Scenes::told, y -> y.image(-1), Checks.BAD);
        s.refuses("2", Scenes::told, y -> y.image(2), Checks.BAD);
        s.refuses("no realm", Scenes::noRealm, y -> y.image(0), Checks.STATE);
        s.refuses("no realm, 1", Scenes::noRealm, y -> y.image(1), Checks.STATE);
        s.refuses("no realm, 2", Scenes::noRealm, y -> y.image(2), Checks.BAD);
    }

    /** Each first call behind restore() must tell of the realm that is there now. */
    private void foretoldAsRestored() {
        List<ToLongFunction<LoveParts>> calls = List.of(x -> x.share(1, 0), x -> x.best(1, 0), x -> x.best(0, 1),
            LoveParts::rather, LoveParts::trueRule, x -> x.order(3, 0), x -> x.order(3, -1), x -> x.ahead(2, 0),
            x -> x.down(3), x -> x.loves(0, 2, 1, 1, 1), x -> x.map(2, 1), x -> x.who(1, 2, 1), x -> x.odds(1, 5, 0),
            x -> x.drawn(2, 1, 0));
        for (int i = 0; i < calls.size(); i++) {
            LoveParts x = Scenes.parted();
            x.ahead(60, 0);
            x.restore(0);
            LoveParts y = two();
            y.row(2, 2, 40);
            s.due("foretold, call " + i, calls.get(i).applyAsLong(x), calls.get(i).applyAsLong(y));
        }
    }

    private void restored() {
        s.promise(30, "The REALM is as an IMAGE kept it (no ACT can be undone then): 1.");
        LoveParts x = Scenes.parted();
        s.due("fewer heirs", x.restore(0), 1);
        s.due("two", x.count(1), 2);
        s.due("acts", x.count(7), 0);
        s.due("undo", x.undo(), Checks.STATE);
        s.due("month", x.count(5), 0);
        s.due("heir 2", x.heir(2, 0), Checks.BAD);
        s.due("bytes stay on the tape", x.count(8), 2);
        s.due("rows stay", x.count(0), 4);
        s.due("the latest fault stays", x.fault(), 1);
        s.due("the trace stays", x.trace(0), 12);
        s.due("status stays", x.status(), Scenes.STATUS);
        x.speak(0, 9, 9);
        s.due("once more", x.restore(0), 1);
        s.due("the image is as it was", x.heir(0, 2), 0);
        foretoldAsRestored();
        s.promise(30, "BAD; STATE: none was kept.");
        s.refuses("-1", Scenes::told, y -> y.restore(-1), Checks.BAD);
        s.refuses("2", Scenes::told, y -> y.restore(2), Checks.BAD);
        s.refuses("the other one was kept", Scenes::told, y -> y.restore(1), Checks.STATE);
        s.refuses("none was kept", Scenes::noRealm, y -> y.restore(0), Checks.STATE);
        s.refuses("none was kept, 2", Scenes::noRealm, y -> y.restore(2), Checks.BAD);
    }
}
