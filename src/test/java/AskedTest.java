/** Promises 31 to 36: kinds, asks, the trace, counts, status. */
public final class AskedTest {
    private static final Checks C = new Checks();

    public static void main(String[] args) {
        promise31();
        promise32();
        promises33And34();
        promise35();
        promise36();
        constants();
        C.end("AskedTest");
    }

    private static void promise31() {
        LoveParts x = Checks.of("k1,0,0,0;i0,0;q0,0;j0,0;s0,0;");
        for (int i = 0; i < 4; i++) {
            C.due("kind " + i, x.kind(i), 5 - i);
        }
        C.due("plain", Checks.of("k1,0,0,0;p0,0;q0,0;").kind(0), 1);
        C.due("4", x.kind(4), Checks.BAD);
        C.due("-1", x.kind(-1), Checks.BAD);
        C.due("no realm", new LoveParts().kind(0), Checks.BAD);
    }

    private static void promise32() {
        // which of the kinds 0 .. 5 each sort is, as bits
        String sorts = "psjqi";
        int[] is = {1 | 2, 1 | 2 | 4, 1 | 2 | 8, 1 | 16, 1 | 16 | 32};
        for (int s = 0; s < 5; s++) {
            LoveParts x = Checks.of("k1,0,0,0;p0,0;" + sorts.charAt(s) + "0,0;");
            for (int kind = 0; kind <= 5; kind++) {
                boolean so = (is[s] >> kind & 1) == 1;
                C.due(sorts.charAt(s) + " as " + kind, x.as(1, kind), so ? 1 : Checks.KIND);
                C.due("status", x.status(), so ? 0 : 3);
            }
            C.due("6", x.as(1, 6), Checks.BAD);
            C.due("-1", x.as(1, -1), Checks.BAD);
            C.due("heir 2", x.as(2, 0), Checks.BAD);
        }
    }

    private static void asked(LoveParts x, int one, int what, int answer, int... bodies) {
        C.due("ask " + one + ", " + what, x.ask(one, what), answer);
        for (int i = 0; i < bodies.length; i++) {
            C.due("trace " + i + " of ask " + one + ", " + what, x.trace(i), bodies[i]);
        }
        C.due("the trace ends", x.trace(bodies.length), Checks.NONE);
    }

    private static void promises33And34() {
        LoveParts x = Checks.of("k1,0,0,0;p7,1;p3,4;s5,6;j7,8;");
        asked(x, 1, 0, 3 + 1 + 4, 11, 10, 21, 20);
        asked(x, 1, 1, 1 + 4, 21, 20);
        asked(x, 2, 0, -(5 + 2 * (2 + 6)), 12, 11, 10, 24, 21, 20);
        asked(x, 2, 1, 2 * (2 + 6), 24, 21, 20);
        asked(x, 3, 0, 7 + 3 + 8 - 1000, 11, 10, 22, 21, 20);
        asked(x, 3, 1, 3 + 8 - 1000, 22, 21, 20);
        LoveParts y = Checks.of("k1,0,0,0;p7,1;q3,4;i5,6;");
        asked(y, 1, 0, 3 - 100, 13, 10);
        asked(y, 1, 1, 1 - (3 - 100), 23, 20, 13, 10);
        asked(y, 2, 0, 2 * (5 - 100), 14, 13, 10);
        asked(y, 2, 1, 2 - 2 * (5 - 100), 23, 20, 14, 13, 10);
        C.due("what 2", y.ask(0, 2), Checks.BAD);
        C.due("what -1", y.ask(0, -1), Checks.BAD);
        C.due("heir 3", y.ask(3, 0), Checks.BAD);
        C.due("what is refused leaves the trace", y.trace(4), 10);
        C.due("-1", y.trace(-1), Checks.NONE);
        C.due("16", y.trace(16), Checks.NONE);
        C.due("far", y.trace(Integer.MAX_VALUE), Checks.NONE);
        C.due("no realm", new LoveParts().ask(0, 0), Checks.BAD);
    }

    private static void promise35() {
        LoveParts x = Checks.of("k90,50,2,3;p3,5;s5,4;j8,2;");
        x.row(2, 0, 0);
        x.row(6, 0, 3);
        x.speak(0, 1, 9);
        x.part();
        x.months(10);
        x.feed('k');
        // heir 0 had the king 4 times: it allowed 12, 10, 8, 6 of 9
        int[] due = {2, 3, 90, 2, 3, 10, 2, 12, 1};
        for (int what = 0; what <= 8; what++) {
            C.due("count " + what, x.count(what), due[what]);
        }
        C.due("9", x.count(9), Checks.BAD);
        C.due("-1", x.count(-1), Checks.BAD);
    }

    private static void promise36() {
        LoveParts x = Checks.of("k90,50,2,3;p3,5;s5,4;j8,2;");
        C.due("none yet", x.status(), 0);
        x.row(0, 0, -1);
        C.due("SIZE", x.status(), 4);
        x.speak(0, 1, 9);
        x.share(0, 0);
        x.ask(0, 0);
        x.kind(0);
        x.trace(0);
        x.count(0);
        x.king(0);
        x.feed(0);
        x.realm();
        x.undo();
        x.image(0);
        x.restore(0);
        x.as(9, 0);
        x.row(0, 9, 1);
        x.map(9, 0);
        x.who(9, 0, 0);
        x.loves(0, 0, 0, 99, 0);
        C.due("calls without a ROW, and BAD ones, leave it", x.status(), 4);
        x.as(0, 2);
        C.due("KIND", x.status(), 3);
        x.as(0, 1);
        C.due("none", x.status(), 0);
        x.drop(0);
        C.due("NULL", x.status(), 1);
        x.row(0, 0, 3);
        C.due("none by row", x.status(), 0);
        x.set(0, 3, 0);
        C.due("PLACE", x.status(), 2);
        x.set(0, 2, 0);
        C.due("none by set", x.status(), 0);
        x.row(1, 1, 3);
        x.copy(0, 0, 1, 0, 0);
        C.due("STORE", x.status(), 5);
        x.copy(0, 0, 0, 0, 0);
        C.due("none by copy", x.status(), 0);
        x.map(0, 1);
        C.due("PLACE by map", x.status(), 2);
        x.map(0, 0);
        C.due("none by map", x.status(), 0);
        x.who(0, 2, 0);
        C.due("NULL by who", x.status(), 1);
        x.who(0, 0, 0);
        C.due("none by who", x.status(), 0);
        x.loves(0, 0, 3, 1, 0);
        C.due("PLACE by loves", x.status(), 2);
        x.loves(0, 0, 0, 1, 0);
        C.due("none by loves", x.status(), 0);
        x.drop(5);
        x.drop(0);
        C.due("none by drop", x.status(), 0);
        LoveParts y = new LoveParts();
        y.drop(0);
        y.map(0, 0);
        C.due("STATE leaves it", y.status(), 1);
    }

    private static void constants() {
        C.due("NONE", LoveParts.NONE, -1000000);
        C.due("BAD", LoveParts.BAD, -1000001);
        C.due("STATE", LoveParts.STATE, -1000002);
        C.due("FULL", LoveParts.FULL, -1000003);
    }
}
