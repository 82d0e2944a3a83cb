/** No call tells an item of a row; it is found by what loves() answers. */
final class ItemReader {
    private ItemReader() {
    }

    /** A realm of 99 knights, whose first host allows what it promises, and its love. */
    static void ready(LoveParts x) {
        // what is on the tape already would stand ahead of the text
        x.realm();
        Checks.tell(x, "k1,99,0,0;p0,0;p0,0;");
        x.realm();
    }

    /** The item, if it is 0 to 49 (else -1), or a refusal, by a realm that is ready: a month leaves promise and love. */
    static int item(LoveParts x, int row, int i) {
        for (int knights = 0; knights <= 40; knights += 10) {
            x.speak(0, 0, knights);
            int love = x.loves(0, row, i, 1, 1);
            if (love != Checks.NONE) {
                return love < 0 ? love : knights + love;
            }
        }
        return -1;
    }

    /** The realm of x is another one then, and status() 0. */
    static int read(LoveParts x, int row, int i) {
        ready(x);
        return item(x, row, i);
    }
}
