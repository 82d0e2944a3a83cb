/** Edges of the promises 2 to 5, and of what 'Terms' tell of rows. */
final class RowsEdges {
    private static final int FAR = Integer.MAX_VALUE, LOW = Integer.MIN_VALUE;
    private final Sentences s;

    RowsEdges(Sentences s) {
        this.s = s;
    }

    void run() {
        rowsAtFirst();
        itemsAtFirst();
        rowInPlace();
        rowBad();
        rowSize();
        setLowestBits();
        setRefused();
        copyEnds();
        copyAsTheyWere();
        copyRefused();
        copyPlace();
        dropped();
    }

    private void rowsAtFirst() {
        s.term(1, "ROWS 0 .. 7 are missing (at first)");
        for (int row = 0; row < 8; row++) {
            int r = row;
            s.refuses("row " + r, LoveParts::new, x -> x.drop(r), Checks.NULL);
        }
        s.refuses("row 8", LoveParts::new, x -> x.drop(8), Checks.BAD);
        s.refuses("row -1", LoveParts::new, x -> x.drop(-1), Checks.BAD);
    }

    private void itemsAtFirst() {
        s.term(1, "a LANE (0 bytes, 1 shorts, 2 ints) and 0 to 40 ITEMS, 0 at first");
        for (int lane = 0; lane <= 2; lane++) {
            LoveParts x = new LoveParts();
            s.due("none", x.row(0, lane, 0), 0);
            s.due("no item of none", x.set(0, 0, 1), Checks.PLACE);
            s.due("40", x.row(7, lane, 40), 40);
            s.due("the last is 0", ItemReader.read(x, 7, 39), 0);
            s.due("the first is 0", ItemReader.item(x, 7, 0), 0);
            s.due("the last can be set", x.set(7, 39, 1), 1);
            s.due("none behind it", x.set(7, 40, 1), Checks.PLACE);
            s.due("how many", x.drop(7), 40);
        }
    }

    private void rowInPlace() {
        s.promise(2, "A ROW of a LANE with n ITEMS, in place of what is there: n.");
        LoveParts x = new LoveParts();
        Checks.fill(x, 0, 0, 1, 2, 3);
        s.due("fewer", x.row(0, 1, 2), 2);
        s.due("another lane", x.set(0, 0, 128), 128);
        s.due("the third is gone", x.set(0, 2, 1), Checks.PLACE);
        s.due("more", x.row(0, 2, 40), 40);
        ItemReader.ready(x);
        for (int i = 0; i < 4; i++) {
            s.due("nothing is left of what was there: " + i, ItemReader.item(x, 0, i), 0);
        }
        s.due("the lane again", x.set(0, 0, 32768), 32768);
        s.due("none", x.row(0, 0, 0), 0);
        s.due("one row yet", x.count(0), 1);
        s.due("empty", x.drop(0), 0);
    }

    private void rowBad() {
        s.promise(2, "BAD: ROW, LANE, n above 40");
        s.answers("row 0", Scenes::noRealm, x -> x.row(0, 0, 1), 1);
        s.answers("row 7", Scenes::noRealm, x -> x.row(7, 0, 1), 1);
        s.refuses("row -1", Scenes::noRealm, x -> x.row(-1, 0, 1), Checks.BAD);
        s.refuses("row 8", Scenes::noRealm, x -> x.row(8, 0, 1), Checks.BAD);
        s.answers("lane 0", Scenes::noRealm, x -> x.row(0, 0, 1), 1);
        s.answers("lane 2", Scenes::noRealm, x -> x.row(0, 2, 1), 1);
        s.refuses("lane -1", Scenes::noRealm, x -> x.row(0, -1, 1), Checks.BAD);
        s.refuses("lane 3", Scenes::noRealm, x -> x.row(0, 3, 1), Checks.BAD);
        s.answers("40", Scenes::noRealm, x -> x.row(0, 0, 40), 40);
        s.refuses("41", Scenes::noRealm, x -> x.row(0, 0, 41), Checks.BAD);
        s.refuses("the most", Scenes::noRealm, x -> x.row(0, 0, FAR), Checks.BAD);
    }

    private void rowSize() {
        s.promise(2, "SIZE");
        s.answers("none", Scenes::noRealm, x -> x.row(0, 0, 0), 0);
        s.refuses("-1", Scenes::noRealm, x -> x.row(0, 0, -1), Checks.SIZE);
        s.refuses("-1 for a row that is missing", Scenes::noRealm, x -> x.row(4, 0, -1), Checks.SIZE);
        s.refuses("the least", Scenes::noRealm, x -> x.row(0, 0, LOW), Checks.SIZE);
    }

    private void setLowestBits() {
        s.promise(3, "ITEM i becomes v, its lowest bits, as many as the LANE has: what it is then.");
        int[] bytes = {127, 127, 128, -128, 255, -1, 256, 0, -128, -128, -129, 127, 65535, -1, FAR, -1, LOW, 0};
        int[] shorts = {255, 255, 32767, 32767, 32768, -32768, 65535, -1, 65536, 0, -32768, -32768, -32769, 32767,
            FAR, -1, LOW, 0};
        int[] ints = {65536, 65536, FAR, FAR, LOW, LOW, -1, -1};
        int[][] lanes = {bytes, shorts, ints};
        LoveParts x = new LoveParts();
        for (int lane = 0; lane <= 2; lane++) {
            x.row(lane, lane, 2);
            for (int i = 0; i < lanes[lane].length; i += 2) {
                s.due("lane " + lane + ": " + lanes[lane][i], x.set(lane, 1, lanes[lane][i]), lanes[lane][i + 1]);
            }
        }
        x.set(0, 0, 256 + 7);
        s.due("it is so when it is read, too", ItemReader.read(x, 0, 0), 7);
    }

    private void setRefused() {
        s.promise(3, "BAD: ROW; NULL; PLACE.");
        s.refuses("row -1", Scenes::noRealm, x -> x.set(-1, 0, 9), Checks.BAD);
        s.refuses("row 8", Scenes::noRealm, x -> x.set(8, 0, 9), Checks.BAD);
        s.refuses("missing", Scenes::noRealm, x -> x.set(4, 0, 9), Checks.NULL);
        s.refuses("the last one, missing", Scenes::noRealm, x -> x.set(7, 0, 9), Checks.NULL);
        s.answers("the first place", Scenes::noRealm, x -> x.set(0, 0, 9), 9);
        s.answers("the last place", Scenes::noRealm, x -> x.set(0, 4, 9), 9);
        s.refuses("behind the last place", Scenes::noRealm, x -> x.set(0, 5, 9), Checks.PLACE);
        s.refuses("ahead of the first", Scenes::noRealm, x -> x.set(0, -1, 9), Checks.PLACE);
        s.answers("the last of a full row", Scenes::noRealm, x -> x.set(2, 39, 9), 9);
        s.refuses("behind a full row", Scenes::noRealm, x -> x.set(2, 40, 9), Checks.PLACE);
        s.refuses("of an empty row", Scenes::noRealm, x -> x.set(3, 0, 9), Checks.PLACE);
    }

    private void copyEnds() {
        s.promise(4, "n ITEMS of a from i on come to b from j on");
        LoveParts x = new LoveParts();
        Checks.fill(x, 0, 0, 1, 2, 3, 4, 5);
        x.row(1, 0, 3);
        s.due("just to both ends", x.copy(0, 2, 1, 0, 3), 3);
        int[] due = {3, 4, 5};
        ItemReader.ready(x);
        for (int i = 0; i < 3; i++) {
            s.due("item " + i, ItemReader.item(x, 1, i), due[i]);
        }
        s.due("none", x.copy(0, 0, 1, 0, 0), 0);
        s.due("none, behind both ends", x.copy(0, 5, 1, 3, 0), 0);
        s.due("all stays by none", ItemReader.item(x, 1, 0), 3);
        s.due("the last to the first", x.copy(1, 2, 0, 0, 1), 1);
        s.due("it is there", ItemReader.item(x, 0, 0), 5);
        s.due("the next one stays", ItemReader.item(x, 0, 1), 2);
        x.row(2, 2, 40);
        x.row(3, 2, 40);
        x.set(2, 39, 8);
        s.due("a full row", x.copy(2, 0, 3, 0, 40), 40);
        s.due("its last item", ItemReader.item(x, 3, 39), 8);
    }

    private void copyAsTheyWere() {
        s.promise(4, "as they were ahead: n.");
        LoveParts x = new LoveParts();
        Checks.fill(x, 0, 1, 1, 2, 3, 4);
        s.due("onto itself, one up", x.copy(0, 0, 0, 1, 3), 3);
        itemsAre(x, 1, 1, 2, 3);
        s.due("onto itself, one down", x.copy(0, 1, 0, 0, 3), 3);
        itemsAre(x, 1, 2, 3, 3);
        s.due("onto itself, where it is", x.copy(0, 0, 0, 0, 4), 4);
        itemsAre(x, 1, 2, 3, 3);
    }

    private void itemsAre(LoveParts x, int... due) {
        ItemReader.ready(x);
        for (int i = 0; i < due.length; i++) {
            s.due("item " + i, ItemReader.item(x, 0, i), due[i]);
        }
    }

    private void copyRefused() {
        s.promise(4, "BAD: ROWS; NULL; STORE; PLACE");
        s.refuses("a -1", Scenes::noRealm, x -> x.copy(-1, 0, 0, 0, 1), Checks.BAD);
        s.refuses("a 8", Scenes::noRealm, x -> x.copy(8, 0, 0, 0, 1), Checks.BAD);
        s.refuses("b -1", Scenes::noRealm, x -> x.copy(0, 0, -1, 0, 1), Checks.BAD);
        s.refuses("b 8", Scenes::noRealm, x -> x.copy(0, 0, 8, 0, 1), Checks.BAD);
        s.refuses("a missing", Scenes::noRealm, x -> x.copy(7, 0, 0, 0, 1), Checks.NULL);
        s.refuses("b missing", Scenes::noRealm, x -> x.copy(0, 0, 7, 0, 1), Checks.NULL);
        s.refuses("both missing, alike", Scenes::noRealm, x -> x.copy(7, 0, 7, 0, 0), Checks.NULL);
        s.refuses("bytes to shorts", Scenes::noRealm, x -> x.copy(0, 0, 1, 0, 1), Checks.STORE);
        s.refuses("shorts to bytes", Scenes::noRealm, x -> x.copy(1, 0, 0, 0, 1), Checks.STORE);
        s.refuses("ints to shorts", Scenes::noRealm, x -> x.copy(2, 0, 1, 0, 1), Checks.STORE);
        s.refuses("none of two lanes", Scenes::noRealm, x -> x.copy(2, 0, 1, 0, 0), Checks.STORE);
        s.refuses("of two lanes, to an empty row", Scenes::noRealm, x -> x.copy(1, 0, 3, 0, 0), Checks.STORE);
    }

    private void copyPlace() {
        s.promise(4, "PLACE (i, j, n below 0, or beyond an end)");
        s.refuses("i below 0", Scenes::noRealm, x -> x.copy(0, -1, 0, 0, 1), Checks.PLACE);
        s.refuses("j below 0", Scenes::noRealm, x -> x.copy(0, 0, 0, -1, 1), Checks.PLACE);
        s.refuses("n below 0", Scenes::noRealm, x -> x.copy(0, 1, 0, 1, -1), Checks.PLACE);
        s.refuses("i below 0 by none", Scenes::noRealm, x -> x.copy(0, -1, 0, 0, 0), Checks.PLACE);
        s.refuses("j below 0 by none", Scenes::noRealm, x -> x.copy(0, 0, 0, -1, 0), Checks.PLACE);
        s.refuses("beyond the end of a", Scenes::noRealm, x -> x.copy(0, 3, 0, 0, 3), Checks.PLACE);
        s.refuses("beyond the end of b", Scenes::noRealm, x -> x.copy(0, 0, 0, 3, 3), Checks.PLACE);
        s.refuses("none, beyond the end of a", Scenes::noRealm, x -> x.copy(0, 6, 0, 0, 0), Checks.PLACE);
        s.refuses("none, beyond the end of b", Scenes::noRealm, x -> x.copy(0, 0, 0, 6, 0), Checks.PLACE);
        s.refuses("one more than there are", Scenes::noRealm, x -> x.copy(0, 0, 0, 0, 6), Checks.PLACE);
        s.refuses("one into an empty row", Scenes::noRealm, x -> x.copy(0, 0, 3, 0, 1), Checks.PLACE);
        s.refuses("one of an empty row", Scenes::noRealm, x -> x.copy(3, 0, 0, 0, 1), Checks.PLACE);
        s.answers("none of an empty row", Scenes::noRealm, x -> x.copy(3, 0, 0, 5, 0), 0);
        s.refuses("a sum of a that wraps around", Scenes::noRealm, x -> x.copy(0, FAR, 0, 0, 1), Checks.PLACE);
        s.refuses("a sum of b that wraps around", Scenes::noRealm, x -> x.copy(0, 0, 0, FAR, 1), Checks.PLACE);
        s.refuses("n that wraps around", Scenes::noRealm, x -> x.copy(0, 1, 0, 1, FAR), Checks.PLACE);
        s.refuses("all least", Scenes::noRealm, x -> x.copy(0, LOW, 0, LOW, LOW), Checks.PLACE);
        s.refuses("n least", Scenes::noRealm, x -> x.copy(0, 5, 0, 5, LOW), Checks.PLACE);
    }

    private void dropped() {
        s.promise(5, "A ROW is missing from now on: how many ITEMS it had.");
        s.answers("five", Scenes::noRealm, x -> x.drop(0), 5);
        s.answers("full", Scenes::noRealm, x -> x.drop(2), 40);
        s.answers("empty", Scenes::noRealm, x -> x.drop(3), 0);
        LoveParts x = Scenes.noRealm();
        x.drop(0);
        s.due("missing", x.set(0, 0, 1), Checks.NULL);
        s.due("one row less", x.count(0), 3);
        s.due("it can be made anew", x.row(0, 0, 5), 5);
        s.due("its items are 0", ItemReader.read(x, 0, 2), 0);
        s.promise(5, "BAD; NULL.");
        s.refuses("row -1", Scenes::noRealm, y -> y.drop(-1), Checks.BAD);
        s.refuses("row 8", Scenes::noRealm, y -> y.drop(8), Checks.BAD);
        s.refuses("missing", Scenes::noRealm, y -> y.drop(4), Checks.NULL);
        s.refuses("the last one, missing", Scenes::noRealm, y -> y.drop(7), Checks.NULL);
    }
}
