/** Counts answers that are not as due; what all tests of the project share. */
final class Checks {
    static final long NONE = -1000000, BAD = -1000001, STATE = -1000002, FULL = -1000003;
    static final long NULL = -1000011, PLACE = -1000012, KIND = -1000013, SIZE = -1000014, STORE = -1000015;

    private int made = 0;
    private int wrong = 0;

    void due(String call, long got, long want) {
        made++;
        if (got != want) {
            wrong++;
            System.out.println(call + " answered " + got + ", due is " + want);
        }
    }

    void isTrue(String what, boolean holds) {
        made++;
        if (!holds) {
            wrong++;
            System.out.println("does not hold: " + what);
        }
    }

    boolean anyWrong() {
        return wrong > 0;
    }

    void end(String test) {
        System.out.println(test + ": " + made + " checks, " + wrong + " wrong");
        if (wrong > 0 || made == 0) {
            System.exit(1);
        }
    }

    static void tell(LoveParts x, String text) {
        for (int i = 0; i < text.length(); i++) {
            x.feed(text.charAt(i));
        }
    }

    static LoveParts of(String text) {
        LoveParts x = new LoveParts();
        tell(x, text);
        if (x.realm() < 0) {
            throw new IllegalArgumentException(text);
        }
        return x;
    }

    static void fill(LoveParts x, int row, int lane, int... items) {
        x.row(row, lane, items.length);
        for (int i = 0; i < items.length; i++) {
            x.set(row, i, items[i]);
        }
    }
}
