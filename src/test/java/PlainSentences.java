/** The sentences of the document that name no edge, each by ordinary inputs whose answers were worked out by hand. */
final class PlainSentences {
    private static final String THREE = "k60,50,9,0;p4,1;p9,2;p5,3;";
    private final Sentences s;

    PlainSentences(Sentences s) {
        this.s = s;
    }

    void run() {
        numbersFromZero();
        setsAreBits();
        whatIsBad();
        rowsThere();
        texts();
        ownWords();
        whatItSays();
        weights();
        bestSpeech();
        trueRule();
        order();
        broken();
        sizes();
        marks();
        askedAnew();
        ofOneHeir();
        lovesOfOne();
    }

    private void numbersFromZero() {
        s.term(0, "Numbers go from 0 on.");
        LoveParts x = Checks.of(Scenes.FOUR);
        s.due("the love of the first heir", x.heir(0, 0), 3);
        s.due("the love of the last heir", x.heir(3, 0), 2);
        s.due("the king is with the first", x.king(1), 0);
        s.due("the first row", x.row(0, 0, 1), 1);
        s.due("the first item", x.set(0, 0, 5), 5);
        s.due("no second item", x.set(0, 1, 5), Checks.PLACE);
        s.due("the first image", x.image(0), 1);
        s.due("the first of an order", x.order(1, 0), 2);
        x.ask(0, 1);
        s.due("the first body", x.trace(0), 21);
    }

    private void setsAreBits() {
        s.term(0, "Sets are bits.");
        LoveParts x = Checks.of("k1,0,0,0;q0,0;q0,0;");
        Checks.fill(x, 0, 0, 1, 0);
        s.due("all rules", x.map(0, 0), 1 + 2 + 4 + 8);
        s.due("all kinds", x.who(0, 0, 0), 2 + 4 + 8 + 16 + 32);
        s.due("all kinds but the last", x.who(1, 0, 0), 2 + 4 + 8 + 16);
        s.due("the second heir", x.rather(), 2);
    }

    private void whatIsBad() {
        s.term(0, "BAD (a number is not as told; there is no such thing)");
        s.refuses("words are not as told", Scenes::told, x -> x.speak(0, 19, 0), Checks.BAD);
        s.refuses("months are not as told", Scenes::parted, x -> x.months(25), Checks.BAD);
        s.refuses("no such heir", Scenes::told, x -> x.heir(4, 0), Checks.BAD);
        s.refuses("no such row", Scenes::told, x -> x.drop(8), Checks.BAD);
        s.refuses("no heir at all", Scenes::noRealm, x -> x.heir(0, 0), Checks.BAD);
    }

    private void rowsThere() {
        s.term(1, "ROWS 0 .. 7 are missing (at first), or have a LANE");
        LoveParts x = new LoveParts();
        for (int row = 0; row < 8; row++) {
            s.due("missing", x.set(row, 0, 300), Checks.NULL);
            x.row(row, row % 3, 3);
            s.due("it has a lane", x.set(row, 2, 300), row % 3 == 0 ? 44 : 300);
            s.due("so many rows", x.count(0), row + 1);
        }
    }

    private void texts() {
        s.term(1, "TEXTS: THE TAPE has at most 100 bytes, that come one by one");
        LoveParts x = new LoveParts();
        String text = Scenes.FOUR;
        for (int i = 0; i < text.length(); i++) {
            s.due("byte " + i, x.feed(text.charAt(i)), i + 1);
        }
        s.due("all of them", x.count(8), text.length());
        s.term(1, "realm: law heir heir { heir }.");
        s.due("four", x.realm(), 4);
        Checks.tell(x, "k17,23,5,3;q1,2;i3,4;");
        s.due("two", x.realm(), 2);
        int[] due = {2, 17, 5, 3};
        int[] what = {1, 2, 3, 4};
        for (int i = 0; i < due.length; i++) {
            s.due("count " + what[i], x.count(what[i]), due[i]);
        }
        s.due("knights", x.king(0), 23);
        s.due("the first is silent", x.kind(0), 4);
        s.due("the second is ironic", x.kind(1), 5);
        s.due("its love", x.heir(1, 0), 3);
        s.due("its tongue", x.heir(1, 1), 4);
        Checks.tell(x, THREE);
        s.due("three", x.realm(), 3);
    }

    private void ownWords() {
        s.term(2, "OWN words of an heir, by those ahead of it (by numbers) who have SPOKEN:");
        LoveParts x = Checks.of("k90,50,2,0;j3,5;s5,4;j8,2;i2,7;");
        s.due("nobody is ahead", x.heir(0, 3), 3);
        s.due("nobody has spoken", x.heir(2, 3), 8);
        s.due("an ironic one", x.speak(3, 4, 0), 7);
        s.due("one behind it is not ahead", x.heir(2, 3), 8);
        s.due("a joint one, nobody ahead", x.speak(0, 10, 0), 3);
        s.due("one ahead has spoken", x.heir(2, 3), 11);
        s.due("a schooled one", x.speak(1, 6, 0), 9);
        s.due("a nearer one has spoken", x.heir(2, 3), 7);
        x.speak(0, 12, 0);
        s.due("nearest by numbers, not in time", x.heir(2, 3), 7);
        s.due("a joint one behind it", x.speak(2, 0, 0), 7);
        s.due("its own words stay when it has spoken", x.speak(2, 1, 0), 7);
    }

    private void whatItSays() {
        s.term(2, "SAYS: what it SAID, or, if it has not SPOKEN, OWN words");
        LoveParts x = Checks.of(Scenes.FOUR);
        s.due("own words", x.heir(1, 3), 9);
        x.speak(1, 2, 0);
        s.due("what it said", x.heir(1, 3), 2);
        x.undo();
        s.due("own words again", x.heir(1, 3), 9);
    }

    private void landIs(LoveParts x, int by, int... due) {
        for (int i = 0; i < due.length; i++) {
            s.due("share of " + i + " by " + by, x.share(i, by), due[i]);
        }
        x.rule(by);
        x.part();
        for (int i = 0; i < due.length; i++) {
            s.due("land of " + i + " by " + by, x.heir(i, 5), due[i]);
        }
        x.undo();
    }

    private void weights() {
        s.term(2, "PARTS by a RULE: each has a WEIGHT:");
        LoveParts x = Checks.of(THREE);
        x.speak(1, 9, 7);
        x.speak(2, 14, 10);
        landIs(x, 0, 10, 20, 30);
        landIs(x, 2, 20, 20, 20);
        landIs(x, 3, 30, 20, 10);
        s.term(2, "It gets LAND times WEIGHT by all WEIGHTS (cut);");
        // 300, 1020 and 1500 by 47: 6, 21 and 31, and two are left
        landIs(x, 1, 6, 21, 33);
    }

    private void bestSpeech() {
        s.term(3, "BEST speech of one (words 0 to 18, knights 0 to 40): the one by which SHARE by RULE, "
            + "less a fourth of the knights (cut), is most");
        LoveParts x = Checks.of("k20,0,0,1;p0,0;p9,0;");
        // three knights cost nothing; a weight of 19 against 10 gets 13, and one is left; one of 18 gets 13 in all
        s.due("how much", x.best(0, 0), 14);
        s.term(3, ": how much; 100 times the words, and the knights.");
        s.due("the speech", x.best(0, 1), 1503);
        x.speak(0, 14, 3);
        s.due("the share by a word less", x.share(0, 1), 13);
        x.speak(0, 15, 3);
        s.due("the share by it", x.share(0, 1), 14);
        s.due("nothing is better then", x.rather() & 1, 0);
    }

    private void trueRule() {
        s.term(3, "TRUE RULE: the first RULE by which");
        s.due("heads", Checks.of("k60,0,0,0;p4,1;p9,2;p5,3;").trueRule(), 2);
        LoveParts x = Checks.of("k60,0,0,3;p0,0;p9,0;");
        x.speak(1, 0, 40);
        s.due("knights, ahead of heads", x.trueRule(), 1);
        s.due("none", Checks.of("k61,0,0,0;p4,1;p9,2;p5,3;").trueRule(), Checks.NONE);
    }

    private void orderIs(LoveParts x, int n, int knights, int... hosts) {
        s.due("knights by " + n, x.order(n, -1), knights);
        for (int k = 0; k < hosts.length; k++) {
            s.due("host " + k + " by " + n, x.order(n, k), hosts[k]);
        }
    }

    private void order() {
        s.term(3, "ORDER for n MONTHS (1 to 24): the order of all HEIRS as hosts, from now on (over and over again), "
            + "by which KNIGHTS are most then (parted now, if it is not)");
        LoveParts x = Checks.of("k1,99,9,0;p9,0;p5,0;p0,0;");
        x.speak(0, 0, 10);
        x.speak(1, 0, 20);
        x.speak(2, 0, 30);
        // they allow 19, 25 and 30; a second time 10, 16 and 21
        orderIs(x, 1, 30, 2, 0, 1);
        orderIs(x, 2, 25, 1, 2, 0);
        orderIs(x, 3, 19, 0, 1, 2);
        orderIs(x, 4, 19, 2, 0, 1);
        orderIs(x, 5, 16, 1, 2, 0);
        orderIs(x, 6, 10, 0, 1, 2);
        x.part();
        orderIs(x, 4, 19, 2, 0, 1);
        x.months(1);
        orderIs(x, 1, 19, 1, 0, 2);
        orderIs(x, 3, 10, 0, 1, 2);
    }

    private void broken() {
        s.term(3, ": KNIGHTS; how often all have BROKEN their words.");
        LoveParts x = Checks.of("k1,99,1,0;p0,0;p5,0;");
        x.speak(0, 0, 10);
        x.speak(1, 0, 20);
        // the first allows 10, 9, 8, 7 .., the second 25, 24, 23, 22, 21, 20, 19 ..
        s.due("knights behind 14", x.ahead(14, 0), 4);
        s.due("broken: six times, and once", x.ahead(14, 1), 7);
        s.term(3, "then the MONTH: KNIGHTS then; how often all have BROKEN their words.");
        // 16807, 282475249, 1622650073, 984943658, 1144108930, 470211272, 101027544, 1457850878, 1458777923, 2007237709:
        // the second three times, the first five times, the second twice
        int[] knights = {99, 25, 24, 23, 10, 9, 8, 7, 6, 6, 6};
        int[] times = {0, 0, 0, 0, 0, 1, 2, 3, 4, 4, 4};
        for (int n = 0; n <= 10; n++) {
            s.due("knights by draws, " + n, x.drawn(n, 1, 0), knights[n]);
            s.due("broken by draws, " + n, x.drawn(n, 1, 1), times[n]);
        }
    }

    private void asked(int what, String text, int... due) {
        LoveParts x = Checks.of(text);
        for (int i = 0; i < due.length; i++) {
            s.due("ask " + what + " of " + i + " in " + text, x.ask(i, what), due[i]);
        }
    }

    private void sizes() {
        s.term(4, "ASKS of HEIRS, by BODIES, each of which leaves its number in THE TRACE as it begins (the first 16): "
            + "0 SIZE: 10 lent to all HEIRS: LOVE. 11 of PLAIN ones: what 10 gives, and MARK. "
            + "12 of SCHOOLED ones: 0 less what 11 gives. 13 of SILENT ones: what 10 gives, less 100. "
            + "14 of IRONIC ones: what 13 gives, twice.");
        asked(0, Scenes.FOUR, 3 + 5, -(5 + 2 * (1 + 4)), 8 + 2 + 2 - 1000, 2 * (2 - 100));
        asked(0, "k1,0,0,0;s6,7;q6,7;p6,7;j6,7;", -(6 + 2 * 7), 6 - 100, 6 + 2 + 7, 6 + 3 + 7 - 1000);
    }

    private void marks() {
        s.term(4, "1 MARK: 20 lent to all HEIRS: the number. 21 of PLAIN ones: what 20 gives, and TONGUE. "
            + "22 of JOINT ones: what 21 gives, less 1000. 23 of SILENT ones: what 20 gives, less SIZE. "
            + "24 of SCHOOLED ones: what 21 gives, twice.");
        asked(1, Scenes.FOUR, 5, 2 * (1 + 4), 2 + 2 - 1000, 3 - 2 * (2 - 100));
        asked(1, "k1,0,0,0;s6,7;q6,7;p6,7;j6,7;", 2 * 7, 1 - (6 - 100), 2 + 7, 3 + 7 - 1000);
    }

    private void bodiesAre(LoveParts x, int one, int what, int... due) {
        x.ask(one, what);
        for (int i = 0; i < due.length; i++) {
            s.due("body " + i + " of " + one, x.trace(i), due[i]);
        }
        s.due("no more bodies of " + one, x.trace(due.length), Checks.NONE);
    }

    private void askedAnew() {
        s.term(4, "SIZE, MARK within others are asked of the same HEIR anew.)");
        LoveParts x = Checks.of(Scenes.FOUR);
        bodiesAre(x, 1, 0, 12, 11, 10, 24, 21, 20);
        bodiesAre(x, 3, 1, 23, 20, 14, 13, 10);
        s.term(3, "By this it is asked.");
        // a joint one has no SIZE of its own, an ironic one no MARK
        bodiesAre(x, 2, 0, 11, 10, 22, 21, 20);
        bodiesAre(x, 2, 1, 22, 21, 20);
        bodiesAre(x, 3, 0, 14, 13, 10);
    }

    private void ofOneHeir() {
        s.promise(15, "Of one: 0 LOVE, 1 TONGUE, 2 whether it has SPOKEN (1, 0), 3 SAYS, 4 PROMISED, 5 LAND (0: not PARTED), "
            + "6 ALLOWED, 7 how often it had the king, 8 how often it has BROKEN its word.");
        LoveParts x = Checks.of(THREE);
        int[] first = {9, 2, 0, 9, 0, 0, 9, 0, 0};
        int[] spoken = {9, 2, 1, 12, 20, 0, 29, 0, 0};
        // 13 by 24 of 60: 32, and one is left
        int[] parted = {9, 2, 1, 12, 20, 33, 29, 0, 0};
        // the second allows 29, 20 and 11 when it has the king; then 9
        int[] later = {9, 2, 1, 12, 20, 33, 9, 3, 1};
        heirIs(x, "at first", first);
        x.speak(1, 12, 20);
        heirIs(x, "spoken", spoken);
        x.part();
        heirIs(x, "parted", parted);
        x.months(8);
        heirIs(x, "eight months later", later);
    }

    private void heirIs(LoveParts x, String when, int[] due) {
        for (int what = 0; what <= 8; what++) {
            s.due(when + ", " + what, x.heir(1, what), due[what]);
        }
    }

    private void lovesOfOne() {
        s.promise(24, "LOVES, n ITEMS of a ROW from i on: how many (what = 0), the least (1; NONE).");
        LoveParts x = Checks.of(THREE);
        // knights behind the months of the first, the second, the third
        Checks.fill(x, 2, 1, 99, 4, 4, 4, 99);
        s.due("only its love leaves 4", x.loves(0, 2, 1, 3, 0), 1);
        s.due("that is 4", x.loves(0, 2, 1, 3, 1), 4);
        s.due("the second loves no less", x.loves(1, 2, 1, 3, 0), 6);
        s.due("4 at least", x.loves(1, 2, 1, 3, 1), 4);
        s.due("in one month the second counts for nothing", x.loves(1, 2, 1, 1, 0), 10);
        s.due("none at least", x.loves(1, 2, 1, 1, 1), 0);
        s.due("none fits from the first item on", x.loves(1, 2, 0, 3, 0), 0);
        s.due("none", x.loves(1, 2, 0, 3, 1), Checks.NONE);
    }
}
