/** Promises 2 to 5, and what they leave for 35 and 36. */
public final class RowsTest {
    private static final Checks C = new Checks();

    public static void main(String[] args) {
        promise2();
        promise3();
        promise4();
        promise5();
        C.end("RowsTest");
    }

    private static void promise2() {
        LoveParts x = new LoveParts();
        C.due("row of none", x.row(0, 0, 0), 0);
        C.due("row of 40", x.row(7, 2, 40), 40);
        C.due("rows", x.count(0), 2);
        C.due("41", x.row(0, 0, 41), Checks.BAD);
        C.due("row 8", x.row(8, 0, 1), Checks.BAD);
        C.due("row -1", x.row(-1, 0, 1), Checks.BAD);
        C.due("lane 3", x.row(0, 3, 1), Checks.BAD);
        C.due("lane -1", x.row(0, -1, 1), Checks.BAD);
        C.due("BAD ahead of SIZE by row", x.row(8, 0, -1), Checks.BAD);
        C.due("BAD ahead of SIZE by lane", x.row(0, 3, -1), Checks.BAD);
        C.due("status after BAD", x.status(), 0);
        C.due("fewer than none", x.row(7, 0, -1), Checks.SIZE);
        C.due("status SIZE", x.status(), 4);
        C.due("least of all", x.row(7, 0, Integer.MIN_VALUE), Checks.SIZE);
        C.due("what is found changes nothing", x.drop(7), 40);
        C.due("status after a good call", x.status(), 0);
        Checks.fill(x, 1, 2, 5, 6, 7);
        C.due("in place of what is there", x.row(1, 2, 2), 2);
        C.due("items are 0 at first", ItemReader.read(x, 1, 0), 0);
        C.due("one more is gone", x.set(1, 2, 1), Checks.PLACE);
        x.row(1, 2, 3);
        C.due("an item that comes back is 0", ItemReader.read(x, 1, 2), 0);
    }

    private static void promise3() {
        LoveParts x = new LoveParts();
        x.row(0, 0, 2);
        x.row(1, 1, 2);
        x.row(2, 2, 2);
        C.due("byte", x.set(0, 0, 127), 127);
        C.due("byte, its lowest bits", x.set(0, 1, 128), -128);
        C.due("byte 256", x.set(0, 1, 256), 0);
        C.due("byte 511", x.set(0, 1, 511), -1);
        C.due("short", x.set(1, 0, 32767), 32767);
        C.due("short, its lowest bits", x.set(1, 1, 32768), -32768);
        C.due("short 65537", x.set(1, 1, 65537), 1);
        C.due("int", x.set(2, 0, Integer.MIN_VALUE), Integer.MIN_VALUE);
        C.due("int most", x.set(2, 1, Integer.MAX_VALUE), Integer.MAX_VALUE);
        C.due("row 8", x.set(8, 0, 0), Checks.BAD);
        C.due("row -1", x.set(-1, 0, 0), Checks.BAD);
        C.due("row 7", x.set(7, 0, 0), Checks.NULL);
        C.due("missing", x.set(3, 0, 0), Checks.NULL);
        C.due("status NULL", x.status(), 1);
        C.due("BAD leaves status", x.set(8, 0, 0), Checks.BAD);
        C.due("status NULL yet", x.status(), 1);
        C.due("missing ahead of place", x.set(3, -1, 0), Checks.NULL);
        C.due("place 2 of 2", x.set(0, 2, 0), Checks.PLACE);
        C.due("status PLACE", x.status(), 2);
        C.due("place -1", x.set(0, -1, 0), Checks.PLACE);
        C.due("place far", x.set(0, Integer.MAX_VALUE, 0), Checks.PLACE);
        C.due("a good one", x.set(0, 1, 9), 9);
        C.due("status 0", x.status(), 0);
        x.set(0, 0, 33);
        C.due("another item stays", x.set(0, 1, 8), 8);
        C.due("it stays", ItemReader.read(x, 0, 0), 33);
    }

    private static void promise4() {
        LoveParts x = new LoveParts();
        Checks.fill(x, 0, 0, 1, 2, 3, 4, 5);
        C.due("onto itself, up", x.copy(0, 0, 0, 1, 4), 4);
        int[] up = {1, 1, 2, 3, 4};
        for (int i = 0; i < 5; i++) {
            C.due("as they were ahead " + i, ItemReader.read(x, 0, i), up[i]);
        }
        C.due("onto itself, down", x.copy(0, 1, 0, 0, 4), 4);
        int[] down = {1, 2, 3, 4, 4};
        for (int i = 0; i < 5; i++) {
            C.due("as they were, down " + i, ItemReader.read(x, 0, i), down[i]);
        }
        x.row(1, 0, 3);
        C.due("to another", x.copy(0, 1, 1, 0, 3), 3);
        C.due("first", ItemReader.read(x, 1, 0), 2);
        C.due("last", ItemReader.read(x, 1, 2), 4);
        C.due("none at the ends", x.copy(0, 5, 1, 3, 0), 0);
        C.due("none beyond an end", x.copy(0, 6, 1, 0, 0), Checks.PLACE);
        C.due("none beyond the other end", x.copy(0, 0, 1, 4, 0), Checks.PLACE);
        C.due("status PLACE", x.status(), 2);
        C.due("too many here", x.copy(1, 1, 0, 0, 3), Checks.PLACE);
        C.due("too many there", x.copy(0, 0, 1, 1, 3), Checks.PLACE);
        C.due("n below 0", x.copy(0, 0, 1, 0, -1), Checks.PLACE);
        C.due("i below 0", x.copy(0, -1, 1, 0, 1), Checks.PLACE);
        C.due("j below 0", x.copy(0, 0, 1, -1, 1), Checks.PLACE);
        C.due("sums that wrap around", x.copy(0, Integer.MAX_VALUE, 1, 0, Integer.MAX_VALUE), Checks.PLACE);
        C.due("n least", x.copy(0, 0, 1, 0, Integer.MIN_VALUE), Checks.PLACE);
        x.row(2, 1, 3);
        C.due("two lanes", x.copy(0, 0, 2, 0, 1), Checks.STORE);
        C.due("status STORE", x.status(), 5);
        C.due("STORE ahead of PLACE", x.copy(0, -1, 2, 0, -1), Checks.STORE);
        C.due("NULL ahead of STORE", x.copy(0, -1, 3, 0, -1), Checks.NULL);
        C.due("NULL of the first", x.copy(3, 0, 0, 0, 0), Checks.NULL);
        C.due("BAD ahead of NULL", x.copy(3, 0, 8, 0, 0), Checks.BAD);
        C.due("BAD a", x.copy(-1, 0, 0, 0, 0), Checks.BAD);
        C.due("BAD a 8", x.copy(8, 0, 0, 0, 0), Checks.BAD);
        C.due("BAD b", x.copy(0, 0, -1, 0, 0), Checks.BAD);
        C.due("a 7", x.copy(7, 0, 0, 0, 0), Checks.NULL);
        C.due("b 7", x.copy(0, 0, 7, 0, 0), Checks.NULL);
        C.due("found changes nothing", ItemReader.read(x, 1, 0), 2);
    }

    private static void promise5() {
        LoveParts x = new LoveParts();
        x.row(4, 1, 17);
        x.row(5, 1, 0);
        C.due("drop", x.drop(4), 17);
        C.due("rows", x.count(0), 1);
        C.due("missing now", x.set(4, 0, 0), Checks.NULL);
        C.due("again", x.drop(4), Checks.NULL);
        C.due("status NULL", x.status(), 1);
        C.due("of none", x.drop(5), 0);
        C.due("status 0", x.status(), 0);
        C.due("rows", x.count(0), 0);
        C.due("row 8", x.drop(8), Checks.BAD);
        C.due("row -1", x.drop(-1), Checks.BAD);
    }
}
