import java.util.function.Supplier;

/** Edges of the promises 9 to 16, and of what 'Terms' tell of words, parts, what hosts allow, and acts. */
final class DoneEdges {
    private static final int FAR = Integer.MAX_VALUE, LOW = Integer.MIN_VALUE;
    private final Sentences s;

    DoneEdges(Sentences s) {
        this.s = s;
    }

    void run() {
        ownWords();
        wordsOfAJointOne();
        wordsAtMost();
        nobodyAhead();
        promised();
        weights();
        whatIsLeft();
        shrinks();
        noMoreThanALetter();
        actsKept();
        undone();
        speeches();
        speakRefused();
        parting();
        ruleRefused();
        aMonth();
        brokenWords();
        hostsInTurn();
        monthsRefused();
        letters();
        heirRefused();
        kingRefused();
    }

    private void ownWords() {
        s.term(2, "of a plain one LOVE; of a schooled one LOVE and TONGUE");
        LoveParts x = Checks.of("k1,0,0,0;p0,9;p9,9;s0,0;s9,9;");
        int[] due = {0, 9, 0, 18};
        for (int i = 0; i < 4; i++) {
            s.due("SAYS " + i, x.heir(i, 3), due[i]);
            s.due("could have SAID " + i, x.speak(i, 1, 0), due[i]);
        }
        s.term(2, "of a silent one 0; of an ironic one 9 less LOVE");
        LoveParts y = Checks.of("k1,0,0,0;q9,9;i9,9;i0,9;i5,0;");
        int[] silent = {0, 0, 9, 4};
        for (int i = 0; i < 4; i++) {
            s.due("SAYS " + i, y.heir(i, 3), silent[i]);
            s.due("could have SAID " + i, y.speak(i, 1, 0), silent[i]);
        }
    }

    private void wordsOfAJointOne() {
        s.term(2, "of a joint one 1 more than the nearest of these (by numbers) SAID (as a plain one, if there is none)");
        LoveParts x = Checks.of("k1,0,0,0;j7,9;p3,0;j9,9;j0,0;");
        s.due("the first: as a plain one", x.heir(0, 3), 7);
        s.due("nobody ahead has spoken", x.heir(2, 3), 9);
        s.due("nobody, with no love", x.heir(3, 3), 0);
        x.speak(3, 12, 0);
        s.due("those behind do not count", x.heir(2, 3), 9);
        s.due("nor does it itself", x.speak(3, 12, 0), 0);
        x.speak(0, 0, 0);
        s.due("1 more than none", x.heir(2, 3), 1);
        x.speak(1, 5, 0);
        s.due("the nearest", x.heir(2, 3), 6);
        x.speak(0, 9, 0);
        s.due("the nearest, not the latest", x.heir(2, 3), 6);
    }

    private void wordsAtMost() {
        s.term(2, "18 at most");
        LoveParts x = Checks.of("k1,0,0,0;p0,0;j0,0;s9,9;");
        x.speak(0, 16, 0);
        s.due("behind 16", x.heir(1, 3), 17);
        x.speak(0, 17, 0);
        s.due("behind 17", x.heir(1, 3), 18);
        x.speak(0, 18, 0);
        s.due("behind 18", x.heir(1, 3), 18);
        s.due("it could have SAID", x.speak(1, 0, 0), 18);
        s.due("9 and 9", x.heir(2, 3), 18);
    }

    private void nobodyAhead() {
        s.term(2, "or, if it has not SPOKEN, OWN words (those ahead who have not SPOKEN are as if they were not there)");
        LoveParts x = Checks.of("k1,0,0,0;p4,0;q9,0;j3,0;j5,0;");
        s.due("nobody has spoken", x.heir(3, 3), 5);
        x.speak(0, 10, 0);
        s.due("behind the first", x.heir(2, 3), 11);
        s.due("a joint one that is silent yet is not there", x.heir(3, 3), 11);
        x.speak(2, 0, 0);
        s.due("now it is", x.heir(3, 3), 1);
        s.due("what it SAID, be it nothing", x.heir(2, 3), 0);
        s.due("spoken", x.heir(2, 2), 1);
    }

    private void promised() {
        s.term(2, "PROMISED: knights it promised (0, if it has not SPOKEN).");
        LoveParts x = Checks.of(Scenes.TWO);
        s.due("not spoken", x.heir(0, 4), 0);
        x.speak(0, 0, 40);
        s.due("40", x.heir(0, 4), 40);
        x.speak(0, 0, 0);
        s.due("none", x.heir(0, 4), 0);
        s.due("of the other", x.heir(1, 4), 0);
    }

    private void shares(LoveParts x, int by, int... due) {
        for (int i = 0; i < due.length; i++) {
            s.due("share of " + i + " by " + by, x.share(i, by), due[i]);
        }
    }

    private void weights() {
        s.term(2, "by 0 what it SAYS; by 1 that, and PROMISED; by 2 1; by 3 18 less what it SAYS; 1 more each by 0, 1, 3.");
        LoveParts x = Checks.of("k60,0,0,0;p0,0;p0,0;");
        shares(x, 0, 30, 30);
        shares(x, 1, 30, 30);
        shares(x, 2, 30, 30);
        shares(x, 3, 30, 30);
        x.speak(0, 18, 40);
        // 19 by 1; 59 by 1; 1 by 19: 57, 3 of 20; 59, 1; 3, 57
        shares(x, 0, 57, 3);
        shares(x, 1, 59, 1);
        shares(x, 2, 30, 30);
        shares(x, 3, 3, 57);
        x.speak(1, 18, 0);
        shares(x, 3, 30, 30);
        // 59 by 19 of 78: 45, 14, and one is left
        shares(x, 1, 46, 14);
    }

    private void whatIsLeft() {
        s.term(2, "what is left is for the one with the greatest WEIGHT, of several the first");
        LoveParts x = Checks.of("k1,0,0,0;p0,0;p1,0;p1,0;p0,0;");
        shares(x, 0, 0, 1, 0, 0);
        shares(x, 1, 0, 1, 0, 0);
        shares(x, 2, 1, 0, 0, 0);
        shares(x, 3, 1, 0, 0, 0);
        LoveParts y = Checks.of("k3,0,0,0;p0,0;p0,0;p0,0;s1,0;");
        // weights 1, 1, 1, 2 of 5: 0, 0, 0, 1, and two are left
        shares(y, 0, 0, 0, 0, 3);
        shares(y, 2, 3, 0, 0, 0);
        LoveParts z = Checks.of("k4,0,0,0;p0,0;p0,0;p0,0;p0,0;");
        shares(z, 0, 1, 1, 1, 1);
        LoveParts w = Checks.of("k99,0,0,2;p0,0;p0,0;p0,0;p0,0;");
        shares(w, 2, 27, 24, 24, 24);
    }

    private void shrinks() {
        s.term(2, "ALLOWED by a host: PROMISED, less SHRINKS for each MONTH it had the king (0 at least), and LOVE");
        LoveParts x = Checks.of("k1,99,9,0;p1,0;p9,9;");
        x.speak(0, 0, 19);
        x.speak(1, 0, 18);
        x.part();
        int[] first = {20, 11, 2, 1, 1};
        int[] second = {27, 18, 9, 9, 9};
        for (int had = 0; had < 5; had++) {
            s.due("had the king " + had + " times: 19", x.heir(0, 6), first[had]);
            s.due("had the king " + had + " times: 18, which ends at 0", x.heir(1, 6), second[had]);
            x.months(2);
        }
        LoveParts y = Checks.of("k1,99,0,0;p0,0;p0,0;");
        y.speak(0, 0, 40);
        y.part();
        y.months(24);
        s.due("by 0 nothing shrinks", y.heir(0, 6), 40);
    }

    private void noMoreThanALetter() {
        s.term(2, "no more than what a letter told it");
        LoveParts x = Checks.of("k1,99,5,0;p0,0;p5,0;p5,0;p6,0;");
        s.due("of one who allows none", x.letter(0, 3), 0);
        s.due("allowed", x.heir(3, 6), 0);
        s.due("of one who allows as much", x.letter(1, 2), 5);
        s.due("of one who allows less by a letter", x.letter(3, 2), 0);
        s.due("of one who allows more", x.letter(1, 0), 0);
        s.due("a letter told no more: love 0", x.heir(0, 6), 0);
        x.speak(0, 0, 40);
        s.due("it told 5", x.heir(0, 6), 5);
        s.due("who told it allows as before", x.heir(1, 6), 5);
    }

    private static LoveParts spoken(int times) {
        LoveParts x = Checks.of(Scenes.TWO);
        for (int i = 1; i <= times; i++) {
            x.speak(0, 0, i);
        }
        return x;
    }

    private void actsKept() {
        s.term(2, "ACTS (24 at most are kept, of more the oldest is forgotten; each can be undone, the latest first)");
        for (int times : new int[] {1, 23, 24, 25, 40}) {
            LoveParts x = spoken(times);
            int kept = Math.min(times, 24);
            s.due(times + " acts", x.count(7), kept);
            for (int left = kept - 1; left >= 0; left--) {
                s.due("undo", x.undo(), left);
                s.due("what was ahead of it", x.heir(0, 4), times - kept + left);
            }
            s.due("no more", x.undo(), Checks.STATE);
            s.due("what is forgotten stays done", x.heir(0, 4), times - kept);
        }
        LoveParts x = spoken(30);
        for (int i = 0; i < 10; i++) {
            x.undo();
        }
        for (int i = 1; i <= 20; i++) {
            x.speak(1, 0, i);
        }
        s.due("14 and 20 acts", x.count(7), 24);
        for (int left = 23; left >= 4; left--) {
            x.undo();
        }
        s.due("twenty undone: the other has not spoken", x.heir(1, 2), 0);
        s.due("nor is more undone", x.heir(0, 4), 20);
        for (int left = 3; left >= 0; left--) {
            s.due("undo around the end of what is kept", x.undo(), left);
        }
        s.due("then", x.heir(0, 4), 16);
        s.due("no more", x.undo(), Checks.STATE);
    }

    private void undone() {
        s.promise(9, "The latest ACT is undone: how many can be undone yet.");
        LoveParts x = Scenes.gone(24);
        s.due("24 months", x.undo(), 23);
        s.due("one month", x.count(5), 23);
        LoveParts y = Scenes.told();
        s.due("the rule", y.undo(), 2);
        s.due("is as it was", y.count(4), 0);
        s.due("the letter", y.undo(), 1);
        s.due("is as it was", y.heir(1, 6), 25);
        s.due("the speech", y.undo(), 0);
        s.due("is as it was", y.heir(1, 2), 0);
        s.promise(9, "STATE: none.");
        s.refuses("no realm", Scenes::noRealm, LoveParts::undo, Checks.STATE);
        s.refuses("no act", () -> Checks.of(Scenes.TWO), LoveParts::undo, Checks.STATE);
        s.refuses("all undone", DoneEdges::allUndone, LoveParts::undo, Checks.STATE);
        s.refuses("restored", DoneEdges::restored, LoveParts::undo, Checks.STATE);
    }

    private static LoveParts allUndone() {
        LoveParts x = Scenes.told();
        x.undo();
        x.undo();
        x.undo();
        return x;
    }

    private static LoveParts restored() {
        LoveParts x = Scenes.parted();
        x.restore(0);
        return x;
    }

    private void speeches() {
        s.term(2, "a speech (words 0 to 18, knights 0 to 40), in place of the one before");
        LoveParts x = Checks.of(Scenes.TWO);
        int[][] edges = {{0, 0}, {18, 40}, {0, 40}, {18, 0}, {0, 0}};
        for (int[] e : edges) {
            s.due("speak " + e[0] + ", " + e[1], x.speak(1, e[0], e[1]), 5);
            s.due("words", x.heir(1, 3), e[0]);
            s.due("knights", x.heir(1, 4), e[1]);
        }
        s.due("an act each", x.count(7), 5);
    }

    private void speakRefused() {
        s.promise(10, "BAD; STATE: it is PARTED.");
        s.refuses("heir -1", Scenes::told, x -> x.speak(-1, 0, 0), Checks.BAD);
        s.refuses("heir 4", Scenes::told, x -> x.speak(4, 0, 0), Checks.BAD);
        s.refuses("heir 2 of two", () -> Checks.of(Scenes.TWO), x -> x.speak(2, 0, 0), Checks.BAD);
        s.refuses("words -1", Scenes::told, x -> x.speak(0, -1, 0), Checks.BAD);
        s.refuses("words 19", Scenes::told, x -> x.speak(0, 19, 0), Checks.BAD);
        s.refuses("knights -1", Scenes::told, x -> x.speak(0, 0, -1), Checks.BAD);
        s.refuses("knights 41", Scenes::told, x -> x.speak(0, 0, 41), Checks.BAD);
        s.refuses("no realm, so no heir", Scenes::noRealm, x -> x.speak(0, 0, 0), Checks.BAD);
        s.refuses("parted", Scenes::parted, x -> x.speak(0, 0, 0), Checks.STATE);
        s.refuses("parted, the last", Scenes::parted, x -> x.speak(3, 18, 40), Checks.STATE);
        s.answers("the last heir", Scenes::told, x -> x.speak(3, 18, 40), 7);
        s.promise(10, "A speech: OWN words it could have SAID.");
        s.answers("behind heir 1, who said 10", Scenes::told, x -> x.speak(2, 0, 0), 11);
        s.term(2, "it is PARTED by RULE (once; nobody speaks then)");
        s.refuses("again", Scenes::parted, LoveParts::part, Checks.STATE);
        s.refuses("one speaks", Scenes::parted, x -> x.speak(1, 0, 0), Checks.STATE);
        LoveParts y = Scenes.told();
        y.part();
        y.undo();
        s.due("it is undone, so one speaks", y.speak(1, 0, 0), 9);
        // behind no words the joint one says 1: weights 4, 1, 2, 8
        s.due("and it is parted", y.part(), 3);
    }

    private void parting() {
        s.promise(11, "It is PARTED: the heir with most LAND, of several the first.");
        s.due("alike", Checks.of("k4,0,0,0;p0,0;p0,0;p0,0;p0,0;").part(), 0);
        s.due("alike, behind the first", Checks.of("k5,0,0,0;p0,0;p1,0;p1,0;").part(), 1);
        s.due("the last", Checks.of("k90,0,0,0;p0,0;p0,0;p0,0;p1,0;").part(), 3);
        s.due("one land", Checks.of("k1,0,0,0;p0,0;s1,0;").part(), 1);
        LoveParts x = Checks.of("k1,0,0,0;p0,0;s1,0;");
        s.due("no land yet", x.heir(1, 5), 0);
        x.part();
        s.due("all of it", x.heir(1, 5), 1);
        s.due("none", x.heir(0, 5), 0);
        LoveParts y = Checks.of("k99,0,0,2;p0,0;p0,0;p0,0;p0,0;");
        y.part();
        s.due("the first, and what is left", y.heir(0, 5), 27);
        s.due("the last", y.heir(3, 5), 24);
        s.promise(11, "STATE: no REALM, it is PARTED.");
        s.refuses("no realm", Scenes::noRealm, LoveParts::part, Checks.STATE);
        s.refuses("parted", Scenes::parted, LoveParts::part, Checks.STATE);
    }

    private void ruleRefused() {
        s.promise(12, "Another RULE (0 to 3): what it was.");
        LoveParts x = Checks.of(Scenes.TWO);
        s.due("3", x.rule(3), 0);
        s.due("0", x.rule(0), 3);
        s.due("0 is it", x.count(4), 0);
        s.promise(12, "BAD; STATE: no REALM (ahead of BAD), it is PARTED.");
        s.refuses("-1", Scenes::told, y -> y.rule(-1), Checks.BAD);
        s.refuses("4", Scenes::told, y -> y.rule(4), Checks.BAD);
        s.refuses("no realm", Scenes::noRealm, y -> y.rule(0), Checks.STATE);
        s.refuses("no realm, -1", Scenes::noRealm, y -> y.rule(-1), Checks.STATE);
        s.refuses("parted", Scenes::parted, y -> y.rule(0), Checks.STATE);
        s.refuses("parted, -1", Scenes::parted, y -> y.rule(-1), Checks.BAD);
        s.term(2, "another RULE (till it is PARTED)");
        s.refuses("the rule that it is, parted", Scenes::parted, y -> y.rule(1), Checks.STATE);
        LoveParts z = Scenes.told();
        z.part();
        z.undo();
        s.due("parted no more", z.rule(2), 1);
    }

    private void aMonth() {
        s.term(2, "a MONTH (if it is PARTED): KNIGHTS are no more than ALLOWED by the host, it had the king once more");
        s.refuses("not parted", Scenes::told, x -> x.months(1), Checks.STATE);
        LoveParts x = Checks.of("k1,20,0,0;p0,0;p0,0;p5,0;p0,0;");
        x.speak(0, 0, 21);
        x.speak(1, 0, 20);
        x.part();
        s.due("more are allowed", x.months(1), 20);
        s.due("as many are allowed", x.months(1), 20);
        s.due("fewer are allowed", x.months(1), 5);
        s.due("none are allowed", x.months(1), 0);
        s.due("none come back", x.months(1), 0);
        int[] had = {2, 1, 1, 1};
        for (int i = 0; i < 4; i++) {
            s.due("had the king, " + i, x.heir(i, 7), had[i]);
        }
    }

    private void brokenWords() {
        s.term(2, "if that is less than PROMISED, it has BROKEN its word once more");
        LoveParts x = Checks.of("k1,0,3,0;p3,0;p0,0;");
        x.speak(0, 0, 9);
        x.part();
        int[] broken = {0, 0, 1, 2};
        for (int turn = 0; turn < 4; turn++) {
            // it allows 12, then 9 as promised, then 6, then 3
            x.months(1);
            s.due("turn " + turn, x.heir(0, 8), broken[turn]);
            x.months(1);
            s.due("who promised none", x.heir(1, 8), 0);
        }
        LoveParts y = Checks.of("k1,0,0,0;p9,0;p0,0;");
        y.speak(0, 0, 1);
        y.letter(1, 0);
        y.part();
        y.months(1);
        s.due("by a letter", y.heir(0, 8), 1);
    }

    private void hostsInTurn() {
        s.term(2, "the next heir (behind the last the first) is the host then");
        for (int heirs = 2; heirs <= 4; heirs++) {
            LoveParts x = Checks.of("k1,0,0,0;p0,0;p0,0;p0,0;p0,0;".substring(0, 9 + 5 * heirs));
            x.part();
            for (int month = 0; month < 9; month++) {
                s.due("host of month " + month + " of " + heirs, x.king(1), month % heirs);
                x.months(1);
            }
            x.undo();
            s.due("undone", x.king(1), 8 % heirs);
        }
    }

    private void monthsRefused() {
        s.promise(13, "n MONTHS (1 to 24), an ACT each: KNIGHTS.");
        LoveParts x = Checks.of(Scenes.TWO);
        x.part();
        s.due("1", x.months(1), 0);
        s.due("two acts", x.count(7), 2);
        s.due("24", x.months(24), 0);
        s.due("months", x.count(5), 25);
        s.due("acts", x.count(7), 24);
        s.promise(13, "BAD; STATE: no REALM (ahead of BAD), it is not PARTED");
        s.refuses("0", Scenes::parted, y -> y.months(0), Checks.BAD);
        s.refuses("25", Scenes::parted, y -> y.months(25), Checks.BAD);
        s.refuses("-1", Scenes::parted, y -> y.months(-1), Checks.BAD);
        s.refuses("the most, which wraps around", Scenes::parted, y -> y.months(FAR), Checks.BAD);
        s.refuses("no realm", Scenes::noRealm, y -> y.months(1), Checks.STATE);
        s.refuses("no realm, 25", Scenes::noRealm, y -> y.months(25), Checks.STATE);
        s.refuses("not parted", Scenes::told, y -> y.months(24), Checks.STATE);
        s.refuses("not parted, 25", Scenes::told, y -> y.months(25), Checks.BAD);
        s.promise(13, "FULL: more than 999 would be gone.");
        Supplier<LoveParts> gone975 = () -> Scenes.gone(975);
        s.answers("just to 999", gone975, y -> y.months(24) < 0 ? -1 : y.count(5), 999);
        s.answers("to 998", () -> Scenes.gone(997), y -> y.months(1) < 0 ? -1 : y.count(5), 998);
        s.refuses("one more", () -> Scenes.gone(976), y -> y.months(24), Checks.FULL);
        s.refuses("one beyond", () -> Scenes.gone(998), y -> y.months(2), Checks.FULL);
        s.refuses("999 are gone", () -> Scenes.gone(999), y -> y.months(1), Checks.FULL);
        s.refuses("999 are gone, 0", () -> Scenes.gone(999), y -> y.months(0), Checks.BAD);
        s.answers("one is undone", () -> Scenes.gone(999), y -> y.undo() < 0 || y.months(1) < 0 ? -1 : y.count(5), 999);
    }

    private void letters() {
        s.term(2, "a letter of one to another one: this one ALLOWS from then on no more than the first one ALLOWS now");
        LoveParts x = Checks.of("k1,0,9,0;p0,0;p9,0;p9,0;");
        s.due("of none", x.letter(0, 1), 0);
        x.speak(0, 0, 40);
        s.due("what it allowed then holds on", x.heir(1, 6), 0);
        s.due("told on", x.letter(1, 2), 0);
        s.due("of more: no more than before", x.letter(0, 1), 0);
        s.promise(14, "A letter: what this one ALLOWS then.");
        s.answers("not parted", Scenes::told, y -> y.letter(3, 2), 2);
        s.answers("parted", Scenes::parted, y -> y.letter(3, 2), 2);
        s.answers("the last to the first", Scenes::parted, y -> y.letter(3, 0), 2);
        s.promise(14, "BAD: alike, too.");
        s.refuses("alike, the first", Scenes::told, y -> y.letter(0, 0), Checks.BAD);
        s.refuses("alike, the last", Scenes::parted, y -> y.letter(3, 3), Checks.BAD);
        s.refuses("of -1", Scenes::told, y -> y.letter(-1, 0), Checks.BAD);
        s.refuses("to -1", Scenes::told, y -> y.letter(0, -1), Checks.BAD);
        s.refuses("of 4", Scenes::told, y -> y.letter(4, 0), Checks.BAD);
        s.refuses("to 4", Scenes::told, y -> y.letter(0, 4), Checks.BAD);
        s.refuses("no realm", Scenes::noRealm, y -> y.letter(0, 1), Checks.BAD);
        s.refuses("2 of two", () -> Checks.of(Scenes.TWO), y -> y.letter(0, 2), Checks.BAD);
    }

    private void heirRefused() {
        s.promise(15, "5 LAND (0: not PARTED)");
        s.answers("not parted", Scenes::told, x -> x.heir(0, 5), 0);
        LoveParts x = Scenes.told();
        x.part();
        // weights 4, 31, 12, 8 of 55: 6, 50, 19, 13, and two are left
        s.due("parted", x.heir(1, 5), 52);
        x.undo();
        s.due("parted no more", x.heir(1, 5), 0);
        s.promise(15, "2 whether it has SPOKEN (1, 0)");
        s.answers("spoken", Scenes::told, y -> y.heir(1, 2), 1);
        s.answers("not spoken", Scenes::told, y -> y.heir(0, 2), 0);
        s.promise(15, "BAD.");
        s.refuses("heir -1", Scenes::parted, y -> y.heir(-1, 0), Checks.BAD);
        s.refuses("heir 4", Scenes::parted, y -> y.heir(4, 0), Checks.BAD);
        s.refuses("heir 2 of two", () -> Checks.of(Scenes.TWO), y -> y.heir(2, 0), Checks.BAD);
        s.refuses("what -1", Scenes::parted, y -> y.heir(0, -1), Checks.BAD);
        s.refuses("what 9", Scenes::parted, y -> y.heir(0, 9), Checks.BAD);
        s.refuses("what least", Scenes::parted, y -> y.heir(0, LOW), Checks.BAD);
        s.refuses("no realm", Scenes::noRealm, y -> y.heir(0, 0), Checks.BAD);
        s.leavesAll("what 8 of the last", Scenes::parted, y -> y.heir(3, 8), 0, Scenes.STATUS);
    }

    private void kingRefused() {
        s.promise(16, "0 KNIGHTS, 1 the host, 2 whether it is PARTED (1, 0).");
        s.leavesAll("knights", Scenes::told, x -> x.king(0), 50, Scenes.STATUS);
        s.leavesAll("not parted", Scenes::told, x -> x.king(2), 0, Scenes.STATUS);
        s.leavesAll("parted", Scenes::parted, x -> x.king(2), 1, Scenes.STATUS);
        s.leavesAll("host", Scenes::parted, x -> x.king(1), 1, Scenes.STATUS);
        s.promise(16, "BAD; STATE: no REALM (ahead of BAD).");
        s.refuses("-1", Scenes::told, x -> x.king(-1), Checks.BAD);
        s.refuses("3", Scenes::told, x -> x.king(3), Checks.BAD);
        s.refuses("no realm", Scenes::noRealm, x -> x.king(2), Checks.STATE);
        s.refuses("no realm, -1", Scenes::noRealm, x -> x.king(-1), Checks.STATE);
    }
}
