/** Edges that the section 'Terms' names for all calls: how numbers are cut, refusals, findings and their order. */
final class TermsEdges {
    private static final int FAR = Integer.MAX_VALUE, LOW = Integer.MIN_VALUE;
    private final Sentences s;

    TermsEdges(Sentences s) {
        this.s = s;
    }

    void run() {
        cutTowardsZero();
        fractions();
        badAheadOfState();
        badAheadOfFull();
        badAheadOfFindings();
        findingsInTime();
        numbersOfFindings();
        refusedChangesNothing();
    }

    private void cutTowardsZero() {
        s.term(0, "All that is divided is cut towards 0");
        LoveParts x = Checks.of("k99,0,0,0;p0,0;p0,0;q0,0;p0,0;");
        x.speak(2, 18, 0);
        // weights 1, 1, 19, 1 of 22: 4 and a half, and 85 and a half
        s.due("4 and a half", x.share(0, 0), 4);
        s.due("85 and a half, and two are left", x.share(2, 0), 87);
        LoveParts y = Checks.of("k2,0,0,2;p0,0;p0,0;");
        y.speak(1, 0, 3);
        s.due("a fourth of 3 is nothing", y.rather(), 0);
        y.speak(1, 0, 4);
        s.due("a fourth of 4 is 1", y.rather(), 2);
    }

    private void fractions() {
        s.term(0, "but fractions, told as two numbers in lowest terms (0 is 0 by 1)");
        LoveParts x = Checks.of("k10,0,0,0;p0,0;p5,0;p0,0;p0,0;");
        x.speak(0, 9, 0);
        x.speak(2, 0, 0);
        x.speak(3, 0, 0);
        s.due("0 above", x.odds(2, 5, 0), 0);
        s.due("0 by 1", x.odds(2, 5, 1), 1);
        s.due("500 of 1000", x.odds(0, 5, 0), 1);
        s.due("1 by 2", x.odds(0, 5, 1), 2);
        s.due("600 of 1000", x.odds(1, 4, 0), 3);
        s.due("3 by 5", x.odds(1, 4, 1), 5);
        s.due("1000 of 1000", x.odds(0, 10, 0), 1);
        s.due("1 by 1", x.odds(0, 10, 1), 1);
    }

    private void badAheadOfState() {
        s.term(0, "Refusals are answers, the first of these that fits, but as told: BAD");
        s.refuses("speak, parted", Scenes::parted, x -> x.speak(4, 0, 0), Checks.BAD);
        s.refuses("speak, words", Scenes::parted, x -> x.speak(0, 19, 0), Checks.BAD);
        s.refuses("speak, knights", Scenes::parted, x -> x.speak(0, 0, 41), Checks.BAD);
        s.refuses("rule, parted", Scenes::parted, x -> x.rule(4), Checks.BAD);
        s.refuses("months, not parted", Scenes::told, x -> x.months(0), Checks.BAD);
        s.refuses("image, no realm", Scenes::noRealm, x -> x.image(2), Checks.BAD);
        s.refuses("restore, none kept", Scenes::noRealm, x -> x.restore(2), Checks.BAD);
        s.term(0, "STATE (as told)");
        s.refuses("rule, no realm", Scenes::noRealm, x -> x.rule(4), Checks.STATE);
        s.refuses("months, no realm", Scenes::noRealm, x -> x.months(0), Checks.STATE);
        s.refuses("king, no realm", Scenes::noRealm, x -> x.king(3), Checks.STATE);
        s.refuses("order, no realm", Scenes::noRealm, x -> x.order(0, 4), Checks.STATE);
        s.refuses("ahead, no realm", Scenes::noRealm, x -> x.ahead(61, 2), Checks.STATE);
        s.refuses("down, no realm", Scenes::noRealm, x -> x.down(0), Checks.STATE);
        s.refuses("map, no realm", Scenes::noRealm, x -> x.map(8, 0), Checks.STATE);
        s.refuses("map, no realm, a row that is missing", Scenes::noRealm, x -> x.map(4, 0), Checks.STATE);
        s.refuses("drawn, no realm", Scenes::noRealm, x -> x.drawn(61, 0, 2), Checks.STATE);
    }

    private void badAheadOfFull() {
        s.term(0, "FULL (as told)");
        s.refuses("feed", Scenes::fullTape, x -> x.feed('k'), Checks.FULL);
        s.refuses("feed, BAD ahead of it", Scenes::fullTape, x -> x.feed(256), Checks.BAD);
        s.refuses("months", () -> Scenes.gone(999), x -> x.months(1), Checks.FULL);
        s.refuses("months, BAD ahead of it", () -> Scenes.gone(999), x -> x.months(25), Checks.BAD);
    }

    private void badAheadOfFindings() {
        s.term(0, "then FINDINGS");
        s.refuses("row: lane and size", Scenes::told, x -> x.row(0, 3, -1), Checks.BAD);
        s.refuses("row: row and size", Scenes::told, x -> x.row(8, 0, -1), Checks.BAD);
        s.refuses("copy: a row that is missing, no such row", Scenes::told, x -> x.copy(4, 0, 8, 0, 0), Checks.BAD);
        s.refuses("loves: heir", Scenes::told, x -> x.loves(4, 4, 0, 1, 0), Checks.BAD);
        s.refuses("loves: n", Scenes::told, x -> x.loves(0, 4, 0, 13, 0), Checks.BAD);
        s.refuses("loves: what", Scenes::told, x -> x.loves(0, 4, 0, 1, 2), Checks.BAD);
        s.refuses("loves: n and place", Scenes::told, x -> x.loves(0, 0, -1, 0, 0), Checks.BAD);
        s.refuses("who: heir", Scenes::told, x -> x.who(4, 4, 0), Checks.BAD);
        s.refuses("who: heir and place", Scenes::told, x -> x.who(-1, 0, -1), Checks.BAD);
        s.refuses("as: heir", Scenes::told, x -> x.as(4, 5), Checks.BAD);
    }

    private void findingsInTime() {
        s.term(0, "of several the first in time");
        s.refuses("set: NULL, PLACE", Scenes::told, x -> x.set(4, -1, 0), Checks.NULL);
        s.refuses("copy: NULL of a, STORE", Scenes::told, x -> x.copy(4, 0, 1, 0, 1), Checks.NULL);
        s.refuses("copy: NULL of b, STORE", Scenes::told, x -> x.copy(1, 0, 4, 0, 1), Checks.NULL);
        s.refuses("copy: NULL of b, PLACE of a", Scenes::told, x -> x.copy(0, -1, 4, 0, 1), Checks.NULL);
        s.refuses("copy: STORE, PLACE", Scenes::told, x -> x.copy(0, -1, 1, 99, -1), Checks.STORE);
        s.refuses("loves: NULL, PLACE", Scenes::told, x -> x.loves(0, 4, -1, 1, 0), Checks.NULL);
        s.refuses("map: NULL, PLACE", Scenes::told, x -> x.map(4, -1), Checks.NULL);
        s.refuses("who: NULL, PLACE", Scenes::told, x -> x.who(0, 4, -1), Checks.NULL);
    }

    private void numbersOfFindings() {
        s.term(0, "-1000010 less 1 NULL (a ROW that is missing), 2 PLACE (no such place of a ROW), "
            + "3 KIND (an HEIR that is not that), 4 SIZE (fewer than none), 5 STORE (ROWS of two LANES)");
        LoveParts x = Scenes.told();
        s.due("NULL", x.drop(4), -1000011);
        s.due("status 1", x.status(), 1);
        s.due("PLACE", x.set(0, 5, 0), -1000012);
        s.due("status 2", x.status(), 2);
        s.due("KIND", x.as(0, 2), -1000013);
        s.due("status 3", x.status(), 3);
        s.due("SIZE", x.row(0, 0, -1), -1000014);
        s.due("status 4", x.status(), 4);
        s.due("STORE", x.copy(0, 0, 1, 0, 0), -1000015);
        s.due("status 5", x.status(), 5);
    }

    /** Numbers that are far off, in every call, by every state. */
    private void refusedChangesNothing() {
        s.term(0, "What is refused, or found, changes nothing but status().");
        for (int far : new int[] {LOW, -1000000, -2, 100, 1000000, FAR}) {
            s.refuses("row " + far, Scenes::parted, x -> x.row(far, 0, 1), Checks.BAD);
            s.refuses("lane " + far, Scenes::parted, x -> x.row(0, far, 1), Checks.BAD);
            s.refuses("set " + far, Scenes::parted, x -> x.set(far, 0, 1), Checks.BAD);
            s.refuses("place " + far, Scenes::parted, x -> x.set(0, far, 1), Checks.PLACE);
            s.refuses("copy " + far, Scenes::parted, x -> x.copy(0, far, 0, 0, 1), Checks.PLACE);
            s.refuses("copy to " + far, Scenes::parted, x -> x.copy(0, 0, 0, far, 1), Checks.PLACE);
            s.refuses("copy so many: " + far, Scenes::parted, x -> x.copy(0, 0, 0, 0, far), Checks.PLACE);
            s.refuses("drop " + far, Scenes::parted, x -> x.drop(far), Checks.BAD);
            s.refuses("speak " + far, Scenes::told, x -> x.speak(far, 0, 0), Checks.BAD);
            s.refuses("words " + far, Scenes::told, x -> x.speak(0, far, 0), Checks.BAD);
            s.refuses("knights " + far, Scenes::told, x -> x.speak(0, 0, far), Checks.BAD);
            s.refuses("rule " + far, Scenes::told, x -> x.rule(far), Checks.BAD);
            s.refuses("months " + far, Scenes::parted, x -> x.months(far), Checks.BAD);
            s.refuses("letter of " + far, Scenes::parted, x -> x.letter(far, 0), Checks.BAD);
            s.refuses("letter to " + far, Scenes::parted, x -> x.letter(0, far), Checks.BAD);
            s.refuses("image " + far, Scenes::parted, x -> x.image(far), Checks.BAD);
            s.refuses("restore " + far, Scenes::parted, x -> x.restore(far), Checks.BAD);
            s.refuses("ask " + far, Scenes::parted, x -> x.ask(far, 0), Checks.BAD);
            s.refuses("ask for " + far, Scenes::parted, x -> x.ask(0, far), Checks.BAD);
        }
    }
}
