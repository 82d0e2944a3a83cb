/** Edges of the promises 1 and 6 to 8, and of what 'Terms' tell of texts and faults. */
final class ToldEdges {
    private static final int FAR = Integer.MAX_VALUE, LOW = Integer.MIN_VALUE;
    private static final String LAW = "k1,0,0,0;", HEIR = "p0,0;", TWO_HEIRS = LAW + HEIR + HEIR;
    private static final String FOUR_HEIRS = TWO_HEIRS + HEIR + HEIR;
    private final Sentences s;

    ToldEdges(Sentences s) {
        this.s = s;
    }

    void run() {
        newObject();
        tape();
        bytes();
        tokens();
        numbersOfTwoFigures();
        numbersOfTheLaw();
        numbersOfAnHeir();
        sorts();
        heirsOfARealm();
        inPlaceOfTheOneBefore();
        noActCanBeUndone();
        firstFault();
        leastFault();
        faultOfPlace();
        faultOfTheEnd();
        faultOfNumbers();
        faultOfRoom();
        realmRead();
        allStays();
        latestFault();
    }

    private void reads(String text, int heirs) {
        LoveParts x = new LoveParts();
        Checks.tell(x, text);
        s.due("realm of " + text, x.realm(), heirs);
        s.due("fault of " + text, x.fault(), 0);
    }

    private void fails(String text, int place, int fault) {
        s.faults(text, () -> tapeOf(Scenes.told(), otherFault(fault), text), place, fault);
    }

    /** A text whose fault has another number, so that it can be seen which is the latest. */
    private static String otherFault(int fault) {
        return fault == 1 ? "k0" : "x";
    }

    private static LoveParts tapeOf(LoveParts x, String first, String text) {
        x.realm();
        Checks.tell(x, first);
        x.realm();
        Checks.tell(x, text);
        return x;
    }

    private void newObject() {
        s.promise(1, "No REALM.");
        LoveParts x = new LoveParts();
        for (int what = 0; what <= 8; what++) {
            s.due("count " + what, x.count(what), 0);
        }
        s.due("fault", x.fault(), 0);
        s.due("status", x.status(), 0);
        s.due("trace", x.trace(0), Checks.NONE);
        s.refuses("speak", LoveParts::new, y -> y.speak(0, 0, 0), Checks.BAD);
        s.refuses("part", LoveParts::new, LoveParts::part, Checks.STATE);
        s.refuses("rule", LoveParts::new, y -> y.rule(0), Checks.STATE);
        s.refuses("months", LoveParts::new, y -> y.months(1), Checks.STATE);
        s.refuses("letter", LoveParts::new, y -> y.letter(0, 1), Checks.BAD);
        s.refuses("heir", LoveParts::new, y -> y.heir(0, 0), Checks.BAD);
        s.refuses("king", LoveParts::new, y -> y.king(0), Checks.STATE);
        s.refuses("share", LoveParts::new, y -> y.share(0, 0), Checks.BAD);
        s.refuses("undo", LoveParts::new, LoveParts::undo, Checks.STATE);
        s.refuses("image", LoveParts::new, y -> y.image(0), Checks.STATE);
        s.refuses("restore", LoveParts::new, y -> y.restore(0), Checks.STATE);
        s.refuses("restore the other", LoveParts::new, y -> y.restore(1), Checks.STATE);
        s.refuses("kind", LoveParts::new, y -> y.kind(0), Checks.BAD);
    }

    private void tape() {
        s.term(1, "THE TAPE has at most 100 bytes, that come one by one");
        LoveParts x = new LoveParts();
        for (int i = 1; i <= 100; i++) {
            s.due("byte " + i, x.feed('k'), i);
        }
        s.due("101", x.feed('k'), Checks.FULL);
        s.due("101 again", x.feed('k'), Checks.FULL);
        s.due("on the tape", x.count(8), 100);
        x.realm();
        s.due("there is room again", x.feed('k'), 1);
    }

    private void bytes() {
        s.promise(6, "A byte (0 to 255) comes behind the tape: how many it has.");
        s.answers("0", Scenes::told, x -> x.feed(0), 3);
        s.answers("255", Scenes::told, x -> x.feed(255), 3);
        LoveParts x = new LoveParts();
        for (int i = 0; i < TWO_HEIRS.length(); i++) {
            s.due("byte " + i, x.feed(TWO_HEIRS.charAt(i)), i + 1);
        }
        s.due("in this order", x.realm(), 2);
        s.promise(6, "BAD; FULL.");
        s.refuses("-1", Scenes::told, y -> y.feed(-1), Checks.BAD);
        s.refuses("256", Scenes::told, y -> y.feed(256), Checks.BAD);
        s.refuses("'k' and 256", Scenes::told, y -> y.feed('k' + 256), Checks.BAD);
        s.refuses("the least", Scenes::told, y -> y.feed(LOW), Checks.BAD);
        s.refuses("the most", Scenes::told, y -> y.feed(FAR), Checks.BAD);
        s.refuses("a full tape", Scenes::fullTape, y -> y.feed(0), Checks.FULL);
        s.refuses("a full tape, BAD", Scenes::fullTape, y -> y.feed(-1), Checks.BAD);
    }

    /** Each of the 256 bytes at each place of a text, and ahead of it: by the model. */
    private void tokens() {
        s.term(1, "TOKENS: letters a to z (each by itself), NUMBERS (figures, 2 at most), SIGNS , and ; nothing else.");
        String text = "k12,3,4,1;p5,6;s7,8;";
        for (int at = 0; at <= text.length(); at++) {
            for (int c = 0; c < 256; c++) {
                String behind = at < text.length() ? text.substring(at + 1) : "";
                asTheModel(text.substring(0, at) + (char) c + behind);
                asTheModel(text.substring(0, at) + (char) c + text.substring(at));
            }
        }
        fails("K1,0,0,0;", 0, 1);
        fails("`1,0,0,0;", 0, 1);
        fails("{1,0,0,0;", 0, 1);
        fails("k/,0,0,0;", 1, 1);
        fails("k:,0,0,0;", 1, 1);
        fails("k1, 0,0,0;", 3, 1);
        fails("k1,0,0,0;" + HEIR + HEIR + "\n", 19, 1);
        fails("k1,0,0,0;pp0,0;" + HEIR, 10, 1);
        fails("k1,-1,0,0;", 3, 1);
    }

    private void asTheModel(String text) {
        LoveParts x = new LoveParts();
        Model m = new Model();
        Checks.tell(x, text);
        for (int i = 0; i < text.length(); i++) {
            m.feed(text.charAt(i));
        }
        s.due("realm of " + text, x.realm(), m.realm());
        s.due("fault of " + text, x.fault(), m.fault());
    }

    private void numbersOfTwoFigures() {
        s.term(1, "NUMBERS (figures, 2 at most)");
        LoveParts x = Checks.of("k07,10,01,00;p09,00;p0,9;");
        s.due("07", x.count(2), 7);
        s.due("10", x.king(0), 10);
        s.due("01", x.count(3), 1);
        s.due("00", x.count(4), 0);
        s.due("09", x.heir(0, 0), 9);
        s.due("00 of an heir", x.heir(0, 1), 0);
        fails("k007,10,01,00;", 1, 1);
        fails("k7,010,1,0;", 3, 1);
        fails("k7,10,000,0;", 6, 1);
        fails("k7,10,1,0000;", 8, 1);
        fails(LAW + "p009,0;" + HEIR, 10, 1);
        fails(LAW + "p9,000;" + HEIR, 12, 1);
    }

    /** The number in a text of the law: as it is told, or a fault at its first figure. */
    private void lawNumber(String ahead, String behind, int least, int most) {
        for (int n = 0; n <= 99; n++) {
            String text = ahead + n + behind + HEIR + HEIR;
            LoveParts x = new LoveParts();
            Checks.tell(x, text);
            boolean so = n >= least && n <= most;
            s.due(text, x.realm(), so ? 2 : -1000100 - ahead.length());
            s.due("fault of " + text, x.fault(), so ? 0 : 2);
        }
    }

    private void numbersOfTheLaw() {
        s.term(1, "law: k LAND , KNIGHTS , SHRINKS , RULE ; (1 to 99; 0 to 99; 0 to 9; 0 to 3).");
        lawNumber("k", ",0,0,0;", 1, 99);
        lawNumber("k1,", ",0,0;", 0, 99);
        lawNumber("k1,0,", ",0;", 0, 9);
        lawNumber("k1,0,0,", ";", 0, 3);
        LoveParts x = Checks.of("k99,99,9,3;p9,9;p9,9;");
        s.due("land", x.count(2), 99);
        s.due("knights", x.king(0), 99);
        s.due("shrinks", x.count(3), 9);
        s.due("rule", x.count(4), 3);
        LoveParts y = Checks.of(TWO_HEIRS);
        s.due("least land", y.count(2), 1);
        s.due("least knights", y.king(0), 0);
        s.due("least shrinks", y.count(3), 0);
        s.due("least rule", y.count(4), 0);
    }

    private void numbersOfAnHeir() {
        s.term(1, "heir: SORT LOVE , TONGUE ;");
        for (int n = 0; n <= 99; n++) {
            LoveParts x = new LoveParts();
            Checks.tell(x, LAW + HEIR + "p" + n + ",0;");
            s.due("love " + n, x.realm(), n <= 9 ? 2 : -1000115);
            s.due("love then", x.heir(1, 0), n <= 9 ? n : Checks.BAD);
            LoveParts y = new LoveParts();
            Checks.tell(y, LAW + HEIR + "p0," + n + ";");
            s.due("tongue " + n, y.realm(), n <= 9 ? 2 : -1000117);
            s.due("tongue then", y.heir(1, 1), n <= 9 ? n : Checks.BAD);
        }
    }

    private void sorts() {
        s.term(1, "SORT: p a plain one, s a schooled one, j a joint one, q a silent one, i an ironic one; 0 to 9; 0 to 9");
        for (char c = 'a'; c <= 'z'; c++) {
            LoveParts x = new LoveParts();
            Checks.tell(x, LAW + HEIR + c + "0,0;");
            int kind = " psjqi".indexOf(c);
            s.due("sort " + c, x.realm(), kind > 0 ? 2 : -1000114);
            s.due("kind by " + c, x.kind(1), kind > 0 ? kind : Checks.BAD);
        }
    }

    private void heirsOfARealm() {
        s.term(1, "HEIRS 0 .. 3, 2 at least, 4 at most");
        fails(LAW, 9, 1);
        fails(LAW + HEIR, 14, 1);
        reads(TWO_HEIRS, 2);
        reads(TWO_HEIRS + HEIR, 3);
        reads(FOUR_HEIRS, 4);
        fails(FOUR_HEIRS + HEIR, 29, 3);
        LoveParts x = Checks.of(FOUR_HEIRS);
        s.due("heir 3", x.kind(3), 1);
        s.due("heir 4", x.kind(4), Checks.BAD);
        LoveParts y = Checks.of(TWO_HEIRS);
        s.due("heir 1 of two", y.kind(1), 1);
        s.due("heir 2 of two", y.kind(2), Checks.BAD);
    }

    private void inPlaceOfTheOneBefore() {
        s.term(1, "A REALM that is read stands in place of the one before (none at first): MONTH 0, nobody has SPOKEN, "
            + "nothing is PARTED, the king is with HEIR 0");
        LoveParts x = Scenes.parted();
        x.ahead(60, 0);
        x.realm();
        Checks.tell(x, Scenes.TWO);
        x.realm();
        LoveParts y = Checks.of(Scenes.TWO);
        s.due("fewer heirs", x.count(1), 2);
        s.due("month", x.count(5), 0);
        s.due("broken", x.count(6), 0);
        for (int what = 0; what <= 2; what++) {
            s.due("king " + what, x.king(what), y.king(what));
        }
        for (int what = 0; what <= 8; what++) {
            s.due("heir 0, " + what, x.heir(0, what), y.heir(0, what));
            s.due("heir 1, " + what, x.heir(1, what), y.heir(1, what));
        }
        s.due("heir 2 is none", x.heir(2, 0), Checks.BAD);
        moreHeirsThanBefore();
    }

    /** Nothing is left of what was foretold, either. */
    private void moreHeirsThanBefore() {
        LoveParts x = Scenes.parted();
        x.realm();
        x.restore(0);
        x.rather();
        x.drawn(60, 1, 0);
        Checks.tell(x, Scenes.FOUR);
        x.realm();
        LoveParts y = Checks.of(Scenes.FOUR);
        s.due("more heirs", x.count(1), 4);
        for (int i = 0; i < 4; i++) {
            for (int what = 0; what <= 8; what++) {
                s.due("heir " + i + " of four, " + what, x.heir(i, what), y.heir(i, what));
            }
        }
    }

    private void noActCanBeUndone() {
        s.term(1, "no ACT can be undone");
        LoveParts x = Scenes.parted();
        x.realm();
        Checks.tell(x, Scenes.TWO);
        x.realm();
        s.due("acts", x.count(7), 0);
        s.due("undo", x.undo(), Checks.STATE);
        x.speak(0, 1, 1);
        s.due("one act anew", x.undo(), 0);
        s.due("no more", x.undo(), Checks.STATE);
        s.due("the realm stays", x.count(1), 2);
    }

    private void firstFault() {
        s.term(1, "FAULTS, the first TOKEN that has one (its first byte)");
        fails("k0,0,99,9;", 1, 2);
        fails("k1,0,10,4;", 5, 2);
        fails("k1,0,0,4x", 7, 2);
        fails("k1;0,0,9;", 2, 1);
        fails("k0", 1, 2);
        fails("k00x", 1, 2);
        fails(LAW + "p10,10;", 10, 2);
        fails(LAW + "p0,10", 12, 2);
        fails(FOUR_HEIRS + "p10,0;", 29, 3);
        fails(LAW + "p10,0;" + HEIR + HEIR + HEIR + HEIR, 10, 2);
    }

    private void leastFault() {
        s.term(1, "of one TOKEN the least");
        // no number, though its value is not as told either
        fails("k000,0,0,0;", 1, 1);
        fails("k1,0,100,0;", 5, 1);
        fails("k1,0,0,999;", 7, 1);
        // a number where none can stand
        fails("00", 0, 1);
        fails("k1,0,0,0;99", 9, 1);
        // what is no heir's letter cannot stand behind the fourth one
        fails(FOUR_HEIRS + "k", 29, 1);
        fails(FOUR_HEIRS + "99", 29, 1);
        fails(FOUR_HEIRS + ";", 29, 1);
        fails(FOUR_HEIRS + "P", 29, 1);
    }

    private void faultOfPlace() {
        s.term(1, "1 it cannot stand there, or is none (a run of three figures, at its first");
        fails("k123", 1, 1);
        fails("k1234567890123456789,0,0,0;", 1, 1);
        fails("123", 0, 1);
        fails("k1000,0,0,0;", 1, 1);
        fails("k1,2,3,123;", 7, 1);
        fails("k1,2,3,1123", 7, 1);
        fails("kk", 1, 1);
        fails("k,", 1, 1);
        fails("k1,0,0,0,", 8, 1);
        fails("k1,0,0;", 6, 1);
        fails(LAW + ";", 9, 1);
        fails(LAW + "p0;", 11, 1);
        fails(LAW + "p0,0,", 13, 1);
        fails(TWO_HEIRS + ";", 19, 1);
        fails(TWO_HEIRS + LAW, 19, 1);
    }

    /** Every beginning of a text but those that are texts themselves. */
    private void faultOfTheEnd() {
        s.term(1, "the end: how many bytes there are");
        for (int n = 0; n < FOUR_HEIRS.length(); n++) {
            if (n != 19 && n != 24) {
                fails(FOUR_HEIRS.substring(0, n), n, 1);
            }
        }
        fails("k99", 3, 1);
        fails("", 0, 1);
    }

    private void faultOfNumbers() {
        s.term(1, "2 a NUMBER that is not as told");
        fails("k0,0,0,0;", 1, 2);
        fails("k00,0,0,0;", 1, 2);
        fails("k1,99,10,0;", 6, 2);
        fails("k1,99,99,0;", 6, 2);
        fails("k1,99,9,4;", 8, 2);
        fails("k1,99,9,10;", 8, 2);
        fails(LAW + "p10,0;", 10, 2);
        fails(LAW + "p9,10;", 12, 2);
        fails(LAW + HEIR + "p99,0;", 15, 2);
        fails(LAW + HEIR + "p0,99;", 17, 2);
    }

    private void faultOfRoom() {
        s.term(1, "3 an heir more than there is room for (its letter)");
        for (char sort : new char[] {'p', 's', 'j', 'q', 'i'}) {
            fails(FOUR_HEIRS + sort, 29, 3);
            fails(FOUR_HEIRS + sort + "0,0;", 29, 3);
        }
        fails("k10,10,0,0;p00,0;p0,00;q1,1;i2,2;s3,3;", 33, 3);
        reads(FOUR_HEIRS, 4);
    }

    private void realmRead() {
        s.promise(7, "The tape, empty then, is read: how many HEIRS there are.");
        LoveParts x = new LoveParts();
        Checks.tell(x, TWO_HEIRS + HEIR);
        s.due("three", x.realm(), 3);
        s.due("the tape is empty", x.count(8), 0);
        s.due("an empty tape is no text", x.realm(), -1000100);
        s.due("heirs stay", x.count(1), 3);
        Checks.tell(x, "x");
        x.realm();
        s.due("it is empty behind a fault, too", x.count(8), 0);
        Checks.tell(x, TWO_HEIRS);
        s.due("the next one is read by itself", x.realm(), 2);
        Checks.tell(x, "k99,99,09,03;p09,09;s09,09;j09,09;q09,09;");
        s.due("the longest text", x.realm(), 4);
        LoveParts full = new LoveParts();
        for (int i = 0; i < 100; i++) {
            full.feed(i < FOUR_HEIRS.length() ? FOUR_HEIRS.charAt(i) : ' ');
        }
        s.due("a full tape", full.realm(), -1000129);
        s.due("empty", full.count(8), 0);
    }

    private void allStays() {
        s.promise(7, "-1000100 less the place of a FAULT: all stays.");
        fails("", 0, 1);
        fails("k1,2,3,0;q0,0;q0,99;", 17, 2);
        fails(FOUR_HEIRS + HEIR, 29, 3);
        s.faults(LAW, () -> tapeOf(Scenes.parted(), "k0", LAW), 9, 1);
        s.faults("k", () -> tapeOf(Scenes.noRealm(), "k0", "k"), 1, 1);
        s.faults("k0", () -> tapeOf(new LoveParts(), "x", "k0"), 1, 2);
    }

    private void latestFault() {
        s.promise(8, "The number of the latest FAULT; 0 before one.");
        LoveParts x = new LoveParts();
        s.due("before one", x.fault(), 0);
        Checks.tell(x, TWO_HEIRS);
        x.realm();
        s.due("before one, yet", x.fault(), 0);
        String[] texts = {"k0", "", FOUR_HEIRS + "p"};
        int[] faults = {2, 1, 3};
        for (int i = 0; i < 3; i++) {
            Checks.tell(x, texts[i]);
            x.realm();
            s.due("fault of " + texts[i], x.fault(), faults[i]);
        }
        Checks.tell(x, TWO_HEIRS);
        x.realm();
        s.due("a good one leaves it", x.fault(), 3);
        x.part();
        x.restore(0);
        x.feed(-1);
        s.due("other calls leave it", x.fault(), 3);
    }
}
