/** Promises 1 and 6 to 8: a new object, the tape, the reading of texts and their faults. */
public final class ToldTest {
    private static final Checks C = new Checks();
    private static final String LAW = "k1,0,0,0;";
    private static final String HEIR = "p0,0;";

    public static void main(String[] args) {
        promise1();
        promise6();
        goodTexts();
        faultsOfForm();
        faultsOfNumbers();
        faultsOfRoom();
        whatAFaultLeaves();
        whatANewRealmLeaves();
        C.end("ToldTest");
    }

    private static void promise1() {
        LoveParts x = new LoveParts();
        for (int what = 0; what <= 8; what++) {
            C.due("new: count " + what, x.count(what), 0);
        }
        C.due("new: king", x.king(0), Checks.STATE);
        C.due("new: heir", x.heir(0, 0), Checks.BAD);
        C.due("new: fault", x.fault(), 0);
        C.due("new: status", x.status(), 0);
        C.due("new: trace", x.trace(0), Checks.NONE);
        C.due("new: undo", x.undo(), Checks.STATE);
        C.due("new: restore", x.restore(1), Checks.STATE);
        for (int row = 0; row < 8; row++) {
            C.due("new: row " + row, x.drop(row), Checks.NULL);
        }
    }

    private static void promise6() {
        LoveParts x = new LoveParts();
        C.due("byte 0", x.feed(0), 1);
        C.due("byte 255", x.feed(255), 2);
        C.due("256", x.feed(256), Checks.BAD);
        C.due("-1", x.feed(-1), Checks.BAD);
        for (int i = 3; i <= 100; i++) {
            C.due("feed", x.feed('k'), i);
        }
        C.due("101st", x.feed('k'), Checks.FULL);
        C.due("BAD ahead of FULL", x.feed(256), Checks.BAD);
        C.due("on the tape", x.count(8), 100);
        C.due("read", x.realm(), -1000100);
        C.due("empty then", x.count(8), 0);
        C.due("from the first on again", x.feed('k'), 1);
    }

    private static void reads(String text, int heirs) {
        LoveParts x = new LoveParts();
        Checks.tell(x, text);
        C.due("realm of " + text, x.realm(), heirs);
        C.due("no fault in " + text, x.fault(), 0);
        C.due("empty tape after " + text, x.count(8), 0);
        C.due("heirs of " + text, x.count(1), heirs);
    }

    private static void fails(String text, int place, int fault) {
        LoveParts x = new LoveParts();
        Checks.tell(x, text);
        C.due("realm of " + text, x.realm(), -1000100 - place);
        C.due("fault of " + text, x.fault(), fault);
        C.due("empty tape after " + text, x.count(8), 0);
        C.due("no heirs by " + text, x.count(1), 0);
    }

    private static void goodTexts() {
        reads(LAW + HEIR + HEIR, 2);
        reads(LAW + HEIR + HEIR + HEIR, 3);
        reads(LAW + HEIR + HEIR + HEIR + HEIR, 4);
        reads("k99,99,09,03;s09,00;q9,9;j0,0;i5,5;", 4);
        LoveParts x = Checks.of("k07,08,9,2;s6,5;i4,03;");
        C.due("land", x.count(2), 7);
        C.due("knights", x.king(0), 8);
        C.due("shrinks", x.count(3), 9);
        C.due("rule", x.count(4), 2);
        C.due("love", x.heir(0, 0), 6);
        C.due("tongue", x.heir(0, 1), 5);
        C.due("love of the other", x.heir(1, 0), 4);
        C.due("tongue of the other", x.heir(1, 1), 3);
        C.due("sort", x.kind(0), 2);
        C.due("sort of the other", x.kind(1), 5);
        C.due("the king is with", x.king(1), 0);
    }

    private static void faultsOfForm() {
        fails("", 0, 1);
        fails("x", 0, 1);
        fails("1", 0, 1);
        fails("K1,0,0,0;", 0, 1);
        fails("k", 1, 1);
        fails("k,", 1, 1);
        fails("kk", 1, 1);
        fails("k100,0,0,0;", 1, 1);
        fails("k001,0,0,0;", 1, 1);
        fails("k12345678901234567890,0,0,0;", 1, 1);
        fails("k1;", 2, 1);
        fails("k 1,0,0,0;", 1, 1);
        fails("k1 ,0,0,0;", 2, 1);
        fails("k1,0,0,0,", 8, 1);
        fails("k1,0,0;", 6, 1);
        fails("k1,0,0", 6, 1);
        fails(LAW, 9, 1);
        fails(LAW + HEIR, 14, 1);
        fails(LAW + HEIR + "p0,0", 18, 1);
        fails(LAW + HEIR + HEIR + "p", 20, 1);
        fails(LAW + HEIR + HEIR + "x", 19, 1);
        fails(LAW + HEIR + HEIR + ";", 19, 1);
        fails(LAW + "k0,0;" + HEIR, 9, 1);
        fails(LAW + "x0,0;" + HEIR, 9, 1);
        fails(LAW + "pp,0;" + HEIR, 10, 1);
        fails(LAW + "p0;0;" + HEIR, 11, 1);
        fails(LAW + "p0,0,", 13, 1);
        fails(LAW + "p000,0;" + HEIR, 10, 1);
        fails("k1,0,0,0;" + (char) 0, 9, 1);
        fails("k1,0,0,0;" + (char) 240, 9, 1);
    }

    private static void faultsOfNumbers() {
        fails("k0,0,0,0;", 1, 2);
        fails("k00,0,0,0;", 1, 2);
        fails("k1,0,10,0;", 5, 2);
        fails("k1,0,0,4;", 7, 2);
        fails("k1,99,0,10;", 8, 2);
        fails(LAW + "p10,0;" + HEIR, 10, 2);
        fails(LAW + "p0,10;" + HEIR, 12, 2);
        fails(LAW + HEIR + "q99,0;", 15, 2);
        // the first token that has one, whatever comes behind
        fails("k0", 1, 2);
        fails("k0x", 1, 2);
        fails("k1,0,0,4x", 7, 2);
        fails("kx0,0,10,9;", 1, 1);
    }

    private static void faultsOfRoom() {
        String four = LAW + HEIR + HEIR + HEIR + HEIR;
        fails(four + HEIR, 29, 3);
        for (char sort : new char[] {'p', 's', 'j', 'q', 'i'}) {
            fails(four + sort, 29, 3);
        }
        fails(four + "x", 29, 1);
        fails(four + "k", 29, 1);
        fails(four + "0", 29, 1);
        fails(four + "000", 29, 1);
        fails(four + ",", 29, 1);
        fails(four + " ", 29, 1);
    }

    private static void whatAFaultLeaves() {
        LoveParts x = Checks.of("k9,8,7,1;p1,2;s3,4;j5,6;");
        x.speak(1, 7, 9);
        x.image(0);
        Checks.tell(x, "k1,2,3,0;q0,0;q0,99;");
        C.due("fault", x.realm(), -1000100 - 17);
        C.due("number", x.fault(), 2);
        C.due("heirs stay", x.count(1), 3);
        C.due("land stays", x.count(2), 9);
        C.due("knights stay", x.king(0), 8);
        C.due("shrinks stay", x.count(3), 7);
        C.due("rule stays", x.count(4), 1);
        C.due("love stays", x.heir(0, 0), 1);
        C.due("sort stays", x.kind(0), 1);
        C.due("what it said stays", x.heir(1, 3), 7);
        C.due("acts stay", x.count(7), 1);
        Checks.tell(x, "k1,0,0,0;p0,0;p0,0;");
        C.due("a good one", x.realm(), 2);
        C.due("the latest fault stays told", x.fault(), 2);
        Checks.tell(x, "y");
        x.realm();
        C.due("a later fault", x.fault(), 1);
        C.due("heirs stay 2", x.count(1), 2);
    }

    private static void whatANewRealmLeaves() {
        LoveParts x = Checks.of("k9,50,1,1;p1,2;s3,4;j5,6;");
        x.speak(0, 7, 9);
        x.speak(1, 3, 4);
        x.letter(0, 1);
        x.part();
        x.months(20);
        x.row(3, 1, 4);
        x.ask(0, 1);
        x.ahead(60, 0);
        Checks.tell(x, "k9,50,1,1;p1,2;s3,4;j5,6;");
        x.realm();
        C.due("month", x.count(5), 0);
        C.due("broken", x.count(6), 0);
        C.due("acts", x.count(7), 0);
        C.due("undo", x.undo(), Checks.STATE);
        C.due("knights", x.king(0), 50);
        C.due("host", x.king(1), 0);
        C.due("parted", x.king(2), 0);
        for (int i = 0; i < 3; i++) {
            C.due("spoken", x.heir(i, 2), 0);
            C.due("promised", x.heir(i, 4), 0);
            C.due("land", x.heir(i, 5), 0);
            C.due("allowed", x.heir(i, 6), x.heir(i, 0));
            C.due("had the king", x.heir(i, 7), 0);
            C.due("broken", x.heir(i, 8), 0);
        }
        C.due("no letter holds on", x.speak(1, 0, 40), 7);
        C.due("allowed", x.heir(1, 6), 43);
        C.due("rows stay", x.count(0), 1);
        C.due("the trace stays", x.trace(0), 21);
    }
}
