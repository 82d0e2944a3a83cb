/** Edges of the promises 31 to 36, and of what 'Terms' tell of kinds, asks and the trace. */
final class AskedEdges {
    private static final int FAR = Integer.MAX_VALUE, LOW = Integer.MIN_VALUE;
    private final Sentences s;

    AskedEdges(Sentences s) {
        this.s = s;
    }

    void run() {
        kindRefused();
        takenAs();
        asRefused();
        askAtTheEdges();
        askRefused();
        traceEmptied();
        traceAtTheEdges();
        countsAtTheEdges();
        countRefused();
        statusOfRows();
        statusStays();
    }

    private void kindRefused() {
        s.promise(31, "The KIND of a HEIR, as told (1 to 5). BAD.");
        LoveParts x = Checks.of("k1,0,0,0;i0,0;p0,0;");
        s.due("5", x.kind(0), 5);
        s.due("1", x.kind(1), 1);
        s.refuses("-1", Scenes::told, y -> y.kind(-1), Checks.BAD);
        s.refuses("4", Scenes::told, y -> y.kind(4), Checks.BAD);
        s.refuses("2 of two", () -> Checks.of(Scenes.TWO), y -> y.kind(2), Checks.BAD);
        s.refuses("no realm", Scenes::noRealm, y -> y.kind(0), Checks.BAD);
        s.leavesAll("the last", Scenes::parted, y -> y.kind(3), 5, Scenes.STATUS);
    }

    private void takenAs() {
        s.term(3, "KINDS of HEIRS: 0 HEIR; 1 PLAIN, an HEIR; 2 SCHOOLED, a PLAIN one; 3 JOINT, a PLAIN one; "
            + "4 SILENT, an HEIR; 5 IRONIC, a SILENT one.");
        boolean[][] is = {
            {true, true, false, false, false, false},
            {true, true, true, false, false, false},
            {true, true, false, true, false, false},
            {true, false, false, false, true, false},
            {true, false, false, false, true, true},
        };
        for (int sort = 0; sort < 5; sort++) {
            LoveParts x = Checks.of("k1,0,0,0;p0,0;" + "psjqi".charAt(sort) + "0,0;");
            for (int kind = 0; kind <= 5; kind++) {
                s.due("kind " + (sort + 1) + " as " + kind, x.as(1, kind), is[sort][kind] ? 1 : Checks.KIND);
            }
        }
    }

    private void asRefused() {
        s.promise(32, "A HEIR is taken as one of a KIND (0 .. 5): its number.");
        s.leavesAll("0 as 0", Scenes::told, x -> x.as(0, 0), 0, 0);
        s.leavesAll("3 as 5", Scenes::parted, x -> x.as(3, 5), 3, 0);
        s.promise(32, "BAD; KIND: it is no such one.");
        s.refuses("kind -1", Scenes::told, x -> x.as(0, -1), Checks.BAD);
        s.refuses("kind 6", Scenes::told, x -> x.as(0, 6), Checks.BAD);
        s.refuses("heir -1", Scenes::told, x -> x.as(-1, 0), Checks.BAD);
        s.refuses("heir 4", Scenes::told, x -> x.as(4, 0), Checks.BAD);
        s.refuses("no realm", Scenes::noRealm, x -> x.as(0, 0), Checks.BAD);
        s.refuses("no realm, kind 6", Scenes::noRealm, x -> x.as(0, 6), Checks.BAD);
        s.refuses("a plain one as a schooled one", Scenes::told, x -> x.as(0, 2), Checks.KIND);
        s.refuses("an ironic one as a plain one", Scenes::told, x -> x.as(3, 1), Checks.KIND);
    }

    private void askAtTheEdges() {
        s.term(4, "Of an ask the BODY told for the KIND begins, else that of the nearest KIND that it is, too, "
            + "else the one that is lent");
        LoveParts x = Checks.of("k1,0,0,0;p9,9;s9,9;j9,9;i9,9;");
        int[] size = {18, -29, 9 + 11 - 1000, -182};
        int[] mark = {9, 20, 11 - 1000, 3 + 182};
        for (int i = 0; i < 4; i++) {
            s.due("SIZE of " + i, x.ask(i, 0), size[i]);
            s.due("MARK of " + i, x.ask(i, 1), mark[i]);
        }
        LoveParts y = Checks.of("k1,0,0,0;q0,0;i0,0;");
        s.due("SIZE without love", y.ask(0, 0), -100);
        s.due("MARK without love", y.ask(0, 1), 100);
        s.due("SIZE of an ironic one", y.ask(1, 0), -200);
        s.due("MARK of an ironic one", y.ask(1, 1), 201);
    }

    private void askRefused() {
        s.promise(33, "An ASK (0, 1) of a HEIR. BAD.");
        s.refuses("what -1", Scenes::told, x -> x.ask(0, -1), Checks.BAD);
        s.refuses("what 2", Scenes::told, x -> x.ask(0, 2), Checks.BAD);
        s.refuses("heir -1", Scenes::told, x -> x.ask(-1, 0), Checks.BAD);
        s.refuses("heir 4", Scenes::told, x -> x.ask(4, 0), Checks.BAD);
        s.refuses("no realm", Scenes::noRealm, x -> x.ask(0, 0), Checks.BAD);
    }

    private void traceEmptied() {
        s.promise(33, "THE TRACE is empty ahead of it.");
        LoveParts x = Checks.of(Scenes.FOUR);
        x.ask(1, 0);
        s.due("six bodies", x.trace(5), 20);
        x.ask(0, 1);
        s.due("two bodies", x.trace(1), 20);
        for (int i = 2; i < 17; i++) {
            s.due("none is left of those before", x.trace(i), Checks.NONE);
        }
        for (int i = 0; i < 30; i++) {
            x.ask(1, 0);
        }
        s.due("asks do not add up", x.trace(6), Checks.NONE);
        s.due("the first body", x.trace(0), 12);
    }

    private void traced(char sort, int what, int... bodies) {
        LoveParts x = Checks.of("k1,0,0,0;p0,0;" + sort + "0,0;");
        x.ask(1, what);
        for (int i = 0; i < bodies.length; i++) {
            s.due(sort + ", " + what + ": body " + i, x.trace(i), bodies[i]);
        }
        s.due(sort + ", " + what + ": no more", x.trace(bodies.length), Checks.NONE);
    }

    private void traceAtTheEdges() {
        s.term(4, "each of which leaves its number in THE TRACE as it begins (the first 16)");
        traced('p', 0, 11, 10, 21, 20);
        traced('p', 1, 21, 20);
        traced('s', 0, 12, 11, 10, 24, 21, 20);
        traced('s', 1, 24, 21, 20);
        traced('j', 0, 11, 10, 22, 21, 20);
        traced('j', 1, 22, 21, 20);
        traced('q', 0, 13, 10);
        traced('q', 1, 23, 20, 13, 10);
        traced('i', 0, 14, 13, 10);
        traced('i', 1, 23, 20, 14, 13, 10);
        s.promise(34, "Number i of THE TRACE; NONE.");
        s.leavesAll("the last", Scenes::told, y -> y.trace(5), 20, Scenes.STATUS);
        s.refuses("behind the last", Scenes::told, y -> y.trace(6), Checks.NONE);
        s.refuses("-1", Scenes::told, y -> y.trace(-1), Checks.NONE);
        s.refuses("15", Scenes::told, y -> y.trace(15), Checks.NONE);
        s.refuses("16", Scenes::told, y -> y.trace(16), Checks.NONE);
        s.refuses("the most", Scenes::told, y -> y.trace(FAR), Checks.NONE);
        s.refuses("the least", Scenes::told, y -> y.trace(LOW), Checks.NONE);
        s.refuses("nothing was asked", Scenes::noRealm, y -> y.trace(0), Checks.NONE);
    }

    private void countsAtTheEdges() {
        s.promise(35, "How many: 0 ROWS, 1 HEIRS, 2 LAND, 3 SHRINKS, 4 RULE, 5 MONTH, 6 how often all have BROKEN their "
            + "words, 7 ACTS that can be undone, 8 bytes on the tape.");
        LoveParts empty = new LoveParts();
        for (int what = 0; what <= 8; what++) {
            s.due("new: " + what, empty.count(what), 0);
        }
        LoveParts full = Checks.of("k99,0,9,3;p0,0;p0,0;p0,0;p0,0;");
        for (int row = 0; row < 8; row++) {
            full.row(row, 0, 0);
        }
        full.speak(0, 0, 40);
        full.part();
        for (int i = 0; i < 41; i++) {
            full.months(24);
        }
        full.months(15);
        for (int i = 0; i < 101; i++) {
            full.feed(0);
        }
        // the first heir had the king 250 times and kept its word once
        int[] due = {8, 4, 99, 9, 3, 999, 249, 24, 100};
        for (int what = 0; what <= 8; what++) {
            s.due("full: " + what, full.count(what), due[what]);
        }
    }

    private void countRefused() {
        s.promise(35, "BAD.");
        s.refuses("-1", Scenes::told, x -> x.count(-1), Checks.BAD);
        s.refuses("9", Scenes::told, x -> x.count(9), Checks.BAD);
        s.refuses("no realm, 9", Scenes::noRealm, x -> x.count(9), Checks.BAD);
        s.refuses("the least", Scenes::told, x -> x.count(LOW), Checks.BAD);
        s.refuses("the most", Scenes::told, x -> x.count(FAR), Checks.BAD);
        s.leavesAll("8", Scenes::told, x -> x.count(8), 2, Scenes.STATUS);
    }

    private void statusOfRows() {
        s.promise(36, "0: it had none, or there was none.");
        s.due("there was none", new LoveParts().status(), 0);
        s.due("the latest of the scenes", Scenes.told().status(), Scenes.STATUS);
        s.answers("row", Scenes::told, x -> x.row(0, 0, 0) + 10 * x.status(), 0);
        s.answers("set", Scenes::told, x -> x.set(0, 0, 0) + 10 * x.status(), 0);
        s.answers("copy", Scenes::told, x -> x.copy(0, 0, 0, 0, 0) + 10 * x.status(), 0);
        s.answers("drop", Scenes::told, x -> x.drop(3) + 10 * x.status(), 0);
        s.answers("loves", Scenes::told, x -> x.loves(0, 2, 0, 1, 0) + 10 * x.status(), 0);
        s.answers("loves, none is least", Scenes::told, x -> x.loves(0, 2, 0, 1, 1) + 10 * x.status(), Checks.NONE);
        s.answers("map", Scenes::told, x -> x.map(2, 0) + 10 * x.status(), 0);
        s.answers("who", Scenes::told, x -> x.who(0, 2, 0) + 10 * x.status(), 0);
        s.answers("as", Scenes::told, x -> x.as(0, 0) + 10 * x.status(), 0);
    }

    private void statusStays() {
        s.promise(36, "Of the latest call with a ROW, or as(), that was not BAD, STATE, FULL: the number of its FINDING");
        LoveParts x = Scenes.told();
        x.row(8, 0, 0);
        x.set(8, 0, 0);
        x.copy(8, 0, 0, 0, 0);
        x.drop(8);
        x.loves(0, 8, 0, 1, 0);
        x.map(8, 0);
        x.who(0, 8, 0);
        x.as(0, 6);
        s.due("BAD calls with a row, and as()", x.status(), Scenes.STATUS);
        LoveParts y = Scenes.noRealm();
        y.map(0, 0);
        s.due("STATE", y.status(), Scenes.STATUS);
        LoveParts z = Scenes.fullTape();
        z.feed(0);
        z.realm();
        z.speak(0, 1, 1);
        z.letter(0, 1);
        z.rule(0);
        z.part();
        z.months(1);
        z.undo();
        z.image(1);
        z.restore(1);
        z.ask(0, 0);
        z.share(0, 0);
        z.best(0, 0);
        z.rather();
        z.trueRule();
        z.order(1, 0);
        z.ahead(1, 0);
        z.down(1);
        z.odds(0, 1, 0);
        z.drawn(1, 1, 0);
        s.due("calls without a row", z.status(), Scenes.STATUS);
    }
}
