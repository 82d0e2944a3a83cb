/** Promises 9 to 16: what is done, and undone. */
public final class DoneTest {
    private static final Checks C = new Checks();
    private static final String FOUR = "k90,50,2,0;p3,5;s5,4;j8,2;i2,7;";

    public static void main(String[] args) {
        promise9();
        promise10();
        promise11();
        promise12();
        promise13();
        brokenWords();
        promise14();
        promise15();
        promise16();
        C.end("DoneTest");
    }

    private static void promise9() {
        LoveParts x = Checks.of(FOUR);
        C.due("nothing yet", x.undo(), Checks.STATE);
        x.speak(1, 10, 20);
        x.speak(1, 2, 3);
        x.letter(0, 1);
        x.rule(3);
        x.part();
        x.months(2);
        C.due("acts, each month one", x.count(7), 7);
        C.due("host", x.king(1), 2);
        C.due("undo a month", x.undo(), 6);
        C.due("host back", x.king(1), 1);
        C.due("month back", x.count(5), 1);
        C.due("had the king", x.heir(1, 7), 0);
        C.due("undo a month", x.undo(), 5);
        C.due("knights back", x.king(0), 50);
        C.due("parted yet", x.king(2), 1);
        C.due("undo the parting", x.undo(), 4);
        C.due("not parted", x.king(2), 0);
        C.due("no land", x.heir(0, 5), 0);
        C.due("rule yet", x.count(4), 3);
        C.due("undo the rule", x.undo(), 3);
        C.due("rule back", x.count(4), 0);
        C.due("allowed by letter yet", x.heir(1, 6), 3);
        C.due("undo the letter", x.undo(), 2);
        C.due("allowed without it", x.heir(1, 6), 8);
        C.due("undo a speech", x.undo(), 1);
        C.due("the one before", x.heir(1, 3), 10);
        C.due("its knights", x.heir(1, 4), 20);
        C.due("undo the first speech", x.undo(), 0);
        C.due("not spoken", x.heir(1, 2), 0);
        C.due("own words", x.heir(1, 3), 9);
        C.due("none is left", x.undo(), Checks.STATE);
        onlyTheLatestAreKept();
    }

    private static void onlyTheLatestAreKept() {
        LoveParts x = Checks.of(FOUR);
        for (int i = 0; i < 30; i++) {
            x.speak(0, i % 19, i);
            C.due("acts kept", x.count(7), Math.min(i + 1, 24));
        }
        for (int left = 23; left >= 0; left--) {
            C.due("undo", x.undo(), left);
            C.due("knights then", x.heir(0, 4), left + 5);
        }
        C.due("the oldest are forgotten", x.undo(), Checks.STATE);
        C.due("what they did stays", x.heir(0, 4), 5);
        x.part();
        x.months(24);
        C.due("24 months are 24 acts", x.count(7), 24);
        for (int left = 23; left >= 0; left--) {
            C.due("undo a month", x.undo(), left);
        }
        C.due("the parting cannot be undone", x.undo(), Checks.STATE);
        C.due("it is parted", x.king(2), 1);
        C.due("no month is gone", x.count(5), 0);
    }

    private static void promise10() {
        LoveParts x = Checks.of("k90,50,2,0;j3,5;s5,4;j8,2;i2,7;");
        C.due("a joint one without others", x.speak(0, 0, 0), 3);
        C.due("a schooled one", x.speak(1, 10, 20), 9);
        C.due("a joint one behind the nearest", x.speak(2, 18, 40), 11);
        C.due("an ironic one", x.speak(3, 5, 0), 7);
        C.due("its own words are not by itself", x.speak(2, 1, 1), 11);
        x.speak(1, 18, 0);
        C.due("18 at most", x.speak(2, 1, 1), 18);
        C.due("acts", x.count(7), 7);
        C.due("those behind do not count", x.speak(0, 0, 0), 3);
        LoveParts y = Checks.of("k9,5,2,0;p4,9;q6,6;j1,1;j2,2;");
        C.due("plain", y.speak(0, 12, 0), 4);
        C.due("silent", y.heir(1, 3), 0);
        C.due("joint: the nearest who has spoken", y.heir(2, 3), 13);
        C.due("joint: one who has not is as if not there", y.heir(3, 3), 13);
        C.due("silent", y.speak(1, 3, 0), 0);
        C.due("joint: the nearest", y.heir(2, 3), 4);
        C.due("joint: the nearest", y.heir(3, 3), 4);
        C.due("heir -1", x.speak(-1, 0, 0), Checks.BAD);
        C.due("heir 4", x.speak(4, 0, 0), Checks.BAD);
        C.due("words 19", x.speak(0, 19, 0), Checks.BAD);
        C.due("words -1", x.speak(0, -1, 0), Checks.BAD);
        C.due("knights 41", x.speak(0, 0, 41), Checks.BAD);
        C.due("knights -1", x.speak(0, 0, -1), Checks.BAD);
        C.due("no act by these", x.count(7), 8);
        x.part();
        C.due("parted", x.speak(0, 0, 0), Checks.STATE);
        C.due("BAD ahead of STATE", x.speak(4, 0, 0), Checks.BAD);
        x.undo();
        C.due("not parted again", x.speak(0, 2, 0), 3);
    }

    private static void promise11() {
        LoveParts x = Checks.of(FOUR);
        // weights 4, 10, 9, 8 of 31: 11, 29, 26, 23, and one is left for heir 1
        C.due("by words", x.part(), 1);
        int[] byWords = {11, 30, 26, 23};
        for (int i = 0; i < 4; i++) {
            C.due("land by words " + i, x.heir(i, 5), byWords[i]);
        }
        C.due("once", x.part(), Checks.STATE);
        C.due("one act", x.count(7), 1);
        x.undo();
        x.rule(2);
        C.due("by heads, the first of several", x.part(), 0);
        C.due("what is left for the first", x.heir(0, 5), 24);
        C.due("the others", x.heir(3, 5), 22);
        x.undo();
        x.rule(3);
        // weights 16, 10, 11, 12 of 49
        C.due("by few words", x.part(), 0);
        int[] byFew = {30, 18, 20, 22};
        for (int i = 0; i < 4; i++) {
            C.due("land by few words " + i, x.heir(i, 5), byFew[i]);
        }
        x.undo();
        x.rule(1);
        x.speak(3, 0, 20);
        // weights 4, 10, 9, 21 of 44: 8, 20, 18, 42, and two are left
        C.due("by words and knights", x.part(), 3);
        int[] byBoth = {8, 20, 18, 44};
        for (int i = 0; i < 4; i++) {
            C.due("land by both " + i, x.heir(i, 5), byBoth[i]);
        }
        C.due("no realm", new LoveParts().part(), Checks.STATE);
    }

    private static void promise12() {
        LoveParts x = Checks.of(FOUR);
        C.due("what it was", x.rule(3), 0);
        C.due("what it was", x.rule(1), 3);
        C.due("what it is", x.count(4), 1);
        C.due("acts", x.count(7), 2);
        C.due("4", x.rule(4), Checks.BAD);
        C.due("-1", x.rule(-1), Checks.BAD);
        x.part();
        C.due("parted", x.rule(0), Checks.STATE);
        C.due("BAD ahead of it", x.rule(4), Checks.BAD);
        C.due("no realm ahead of BAD", new LoveParts().rule(9), Checks.STATE);
    }

    private static void promise13() {
        LoveParts x = Checks.of("k10,30,5,0;p1,0;p0,0;");
        x.speak(0, 0, 20);
        x.speak(1, 0, 18);
        C.due("not parted", x.months(1), Checks.STATE);
        C.due("BAD ahead of it", x.months(0), Checks.BAD);
        x.part();
        C.due("0", x.months(0), Checks.BAD);
        C.due("25", x.months(25), Checks.BAD);
        C.due("no realm ahead of BAD", new LoveParts().months(25), Checks.STATE);
        C.due("with heir 0: 20 and 1", x.months(1), 21);
        C.due("host", x.king(1), 1);
        C.due("had the king", x.heir(0, 7), 1);
        C.due("with heir 1: 18", x.months(1), 18);
        C.due("the first behind the last", x.king(1), 0);
        C.due("with both: 16, 13", x.months(2), 13);
        C.due("month", x.count(5), 4);
        C.due("to the end: promises are gone, love stays", x.months(24), 0);
        for (int i = 0; i < 40; i++) {
            x.months(24);
        }
        C.due("988 are gone", x.count(5), 988);
        C.due("12 more are too many", x.months(12), Checks.FULL);
        C.due("BAD ahead of FULL", x.months(25), Checks.BAD);
        C.due("nothing changes", x.count(5), 988);
        C.due("11 more", x.months(11), 0);
        C.due("999 are gone", x.count(5), 999);
        C.due("one more", x.months(1), Checks.FULL);
        x.undo();
        C.due("one less", x.count(5), 998);
        C.due("one more again", x.months(1), 0);
    }

    private static void brokenWords() {
        LoveParts x = Checks.of("k10,9,4,0;p3,0;p0,0;");
        x.speak(0, 0, 20);
        x.part();
        x.months(2);
        // heir 0 allows 23 at first, more than it promised, though the king has 9 knights alone
        C.due("few knights break no word", x.heir(0, 8), 0);
        C.due("who promised none breaks none", x.heir(1, 8), 0);
        C.due("knights", x.king(0), 0);
        x.months(2);
        C.due("16 and 3 are less than 20", x.heir(0, 8), 1);
        x.months(4);
        C.due("each time", x.heir(0, 8), 3);
        C.due("all", x.count(6), 3);
        x.undo();
        C.due("the other's month is undone", x.count(6), 3);
        x.undo();
        C.due("its month is undone", x.count(6), 2);
    }

    private static void promise14() {
        LoveParts x = Checks.of("k10,90,5,0;p1,0;p2,0;p3,0;");
        x.speak(0, 0, 10);
        x.speak(1, 0, 20);
        x.speak(2, 0, 30);
        C.due("11 of the first", x.letter(0, 1), 11);
        C.due("the first allows as before", x.heir(0, 6), 11);
        C.due("told on: no more than it allows now", x.letter(1, 2), 11);
        C.due("of one who allows more", x.letter(2, 0), 11);
        C.due("acts", x.count(7), 6);
        x.speak(0, 0, 40);
        C.due("a letter holds on", x.heir(0, 6), 11);
        x.part();
        x.months(1);
        C.due("knights by letters", x.king(0), 11);
        C.due("that breaks its word", x.heir(0, 8), 1);
        x.months(6);
        // heir 0 had the king 3 times, 25 and 1 more than 11; heir 1 twice, 10 and 2
        C.due("promises shrink below what was told", x.heir(1, 6), 11);
        x.months(1);
        C.due("now below it", x.heir(1, 6), 7);
        C.due("a letter of less", x.letter(1, 0), 7);
        C.due("an earlier one of less holds on", x.letter(2, 0), 7);
        C.due("alike", x.letter(1, 1), Checks.BAD);
        C.due("from 3", x.letter(3, 1), Checks.BAD);
        C.due("to 3", x.letter(1, 3), Checks.BAD);
        C.due("from -1", x.letter(-1, 1), Checks.BAD);
        C.due("to -1", x.letter(1, -1), Checks.BAD);
        LoveParts y = Checks.of("k10,90,5,0;p1,0;p2,0;p3,0;");
        C.due("less was told", y.letter(0, 2), 1);
        C.due("more is told later", y.letter(1, 2), 1);
        y.undo();
        y.undo();
        C.due("undone", y.heir(2, 6), 3);
    }

    private static void promise15() {
        LoveParts x = Checks.of(FOUR);
        x.speak(0, 11, 12);
        x.part();
        x.months(5);
        // says 11, 9, 12, 7: weights 12, 10, 13, 8 of 43, 25, 20, 27, 16, and two are left for heir 2
        int[][] due = {
            {3, 5, 1, 11, 12, 25, 11, 2, 0},
            {5, 4, 0, 9, 0, 20, 5, 1, 0},
            {8, 2, 0, 12, 0, 29, 8, 1, 0},
            {2, 7, 0, 7, 0, 16, 2, 1, 0},
        };
        for (int i = 0; i < 4; i++) {
            for (int what = 0; what <= 8; what++) {
                C.due("heir " + i + ", " + what, x.heir(i, what), due[i][what]);
            }
            C.due("what 9", x.heir(i, 9), Checks.BAD);
            C.due("what -1", x.heir(i, -1), Checks.BAD);
        }
        C.due("heir 4", x.heir(4, 0), Checks.BAD);
        C.due("heir -1", x.heir(-1, 0), Checks.BAD);
        x.months(4);
        C.due("8 and 3 are less than 12", x.heir(0, 8), 1);
    }

    private static void promise16() {
        LoveParts x = Checks.of(FOUR);
        C.due("knights", x.king(0), 50);
        C.due("host", x.king(1), 0);
        C.due("parted", x.king(2), 0);
        x.part();
        x.months(3);
        C.due("knights", x.king(0), 3);
        C.due("host", x.king(1), 3);
        C.due("parted", x.king(2), 1);
        C.due("3", x.king(3), Checks.BAD);
        C.due("-1", x.king(-1), Checks.BAD);
        C.due("no realm ahead of BAD", new LoveParts().king(3), Checks.STATE);
    }
}
