import java.io.IOException;
import java.util.function.Function;
import java.util.function.Supplier;
import java.util.function.ToLongFunction;

/**
 * Checks that stand under a sentence of the document: each begins with the sentence, which must stand there
 * in just these words, and has one check at least.
 */
final class Sentences {
    private final Checks checks = new Checks();
    private final Document document;
    private String sentence = "";
    private int behind = 1;

    Sentences() throws IOException {
        document = new Document();
    }

    void promise(int n, String words) {
        begin("promise " + n, words, document.quotePromise(n, words));
    }

    void term(int section, String words) {
        begin("terms " + section, words, document.quoteTerm(section, words));
    }

    private void begin(String where, String words, boolean told) {
        endSentence();
        sentence = where + ", '" + words + "'";
        behind = 0;
        checks.isTrue(sentence + " stands in the document", told);
    }

    private void endSentence() {
        checks.isTrue(sentence + " is checked", behind > 0);
    }

    void due(String call, long got, long want) {
        behind++;
        checks.due(sentence + ": " + call, got, want);
    }

    /** The answer to one call on an object that is made for it. */
    void answers(String call, Supplier<LoveParts> made, ToLongFunction<LoveParts> asked, long want) {
        due(call, asked.applyAsLong(made.get()), want);
    }

    /** A call that answers so and changes nothing; status() it may, if it is a finding. */
    void refuses(String call, Supplier<LoveParts> made, ToLongFunction<LoveParts> asked, long want) {
        int before = made.get().status();
        boolean finding = want <= Checks.NULL && want >= Checks.STORE;
        leavesAll(call, made, asked, want, finding ? -1000010 - want : before);
    }

    /** A call that answers so, changes nothing, and leaves status() so. */
    void leavesAll(String call, Supplier<LoveParts> made, ToLongFunction<LoveParts> asked, long want, long status) {
        for (Function<LoveParts, String> probe : Probes.ALL) {
            LoveParts x = made.get();
            due(call, asked.applyAsLong(x), want);
            due(call + ", status then", x.status(), status);
            same(call, probe, x, made.get());
        }
    }

    /** A text on the tape that has a fault: it is told, the tape is empty, and all else stays. */
    void faults(String text, Supplier<LoveParts> made, int place, int fault) {
        for (Function<LoveParts, String> probe : Probes.BUT_THE_TAPE) {
            LoveParts x = made.get();
            int status = x.status();
            due("realm of " + text, x.realm(), -1000100 - place);
            due("fault of " + text, x.fault(), fault);
            due("bytes on the tape behind " + text, x.count(8), 0);
            due("status behind " + text, x.status(), status);
            same("realm of " + text, probe, x, made.get());
        }
    }

    private void same(String call, Function<LoveParts, String> probe, LoveParts x, LoveParts untouched) {
        String got = probe.apply(x);
        String left = probe.apply(untouched);
        checks.isTrue(sentence + ": " + call + " changes nothing:\n" + got + "\n" + left, got.equals(left));
    }

    void end(String test) {
        endSentence();
        for (int n = 1; n <= Document.PROMISES; n++) {
            allIsQuoted("promise " + n, document.leftOfPromise(n));
        }
        for (int n = 0; n <= Document.TERMS; n++) {
            allIsQuoted("terms " + n, document.leftOfTerm(n));
        }
        checks.end(test);
    }

    /** A part of which nothing stands in the document is not quoted either. */
    private void allIsQuoted(String where, String left) {
        checks.isTrue(where + ": each word has a check; no check has " + left, left.equals("|"));
    }
}
