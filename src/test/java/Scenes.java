/** Objects in states that an edge needs; all have rows, a fault, a latest finding and bytes on the tape. */
final class Scenes {
    static final String FOUR = "k90,50,2,0;p3,5;s5,4;j8,2;i2,7;";
    static final String TWO = "k10,30,5,0;p0,0;p5,0;";
    /** The finding that all of them had latest: STORE. */
    static final int STATUS = 5;

    private Scenes() {
    }

    /** Rows 0 (bytes), 1 (shorts), 2 (ints, full), 3 (empty); 4 to 7 are missing. */
    private static void begin(LoveParts x) {
        Checks.tell(x, "y");
        x.realm();
        Checks.fill(x, 0, 0, 1, 2, 3, 4, 5);
        Checks.fill(x, 1, 1, 6, 7, 8);
        x.row(2, 2, 40);
        x.set(2, 0, 11);
        x.set(2, 39, 9);
        x.row(3, 0, 0);
        x.copy(0, 0, 1, 0, 1);
        Checks.tell(x, "k9");
    }

    static LoveParts noRealm() {
        LoveParts x = new LoveParts();
        begin(x);
        return x;
    }

    /** Image 0 is of a realm of two; heir 1 says 10 and promises 20, a letter of heir 0 told it 3; three acts, rule 1. */
    static LoveParts told() {
        LoveParts x = Checks.of(TWO);
        x.image(0);
        Checks.tell(x, FOUR);
        x.realm();
        x.ask(1, 0);
        x.speak(1, 10, 20);
        x.letter(0, 1);
        x.rule(1);
        begin(x);
        return x;
    }

    /** As told(), then parted, and five months: heir 1 is the host, heir 0 had the king twice. */
    static LoveParts parted() {
        LoveParts x = told();
        x.part();
        x.months(5);
        return x;
    }

    /** As told(), then parted, and so many months. */
    static LoveParts gone(int months) {
        LoveParts x = told();
        x.part();
        for (int left = months; left > 0; left -= 24) {
            x.months(Math.min(left, 24));
        }
        return x;
    }

    static LoveParts fullTape() {
        LoveParts x = told();
        for (int length = x.count(8); length < 100; length++) {
            x.feed('k');
        }
        return x;
    }
}
