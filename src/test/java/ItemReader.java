/** No call tells an item of a row; it is found by what loves() answers. */
final class ItemReader {
    private ItemReader() {
    }

    /**
     * The item, if it is 0 to 40, else -1: in a realm of k knights whose first host allows k or more,
     * one month leaves k knights, so all ten loves fit just when the item is k.
     * The realm of x is another one then, and status() 0.
     */
    static int read(LoveParts x, int row, int i) {
        for (int k = 0; k <= 40; k++) {
            Checks.tell(x, "k1," + k + ",0,0;p0,0;p0,0;");
            x.realm();
            x.speak(0, 0, 40);
            if (x.loves(0, row, i, 1, 0) == 10) {
                return k;
            }
        }
        return -1;
    }
}
