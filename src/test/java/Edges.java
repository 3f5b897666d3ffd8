import java.nio.file.Path;

/** Tests of single sentences of the document: each names the sentence's own words, which must stand there. */
final class Edges {
    private static final int MIN = Integer.MIN_VALUE, MAX = Integer.MAX_VALUE;
    final Due due = new Due();
    private final Document document;

    Edges() throws Exception {
        document = new Document(Path.of("../shared/DOC.md"));
        due.is("parts of the document", document.many(), 5 + 32);
    }

    void names(String part, String words) {
        due.holds(part + " says: " + words, document.names(part, words));
    }

    /** A run on a new object: calls by lines or semicolons, the due answer behind "="; "#" begins a remark. */
    void says(String part, String words, String run) {
        names(part, words);
        Talk talk = new Talk();
        int asked = 0;
        for (String step : run.replaceAll("#[^\n]*", "").strip().split("\\s*[;\n]\\s*")) {
            String[] sides = step.split("=");
            int got = talk.ask(sides[0]);
            if (sides.length > 1) {
                asked++;
                check(part, words, step, got, Talk.number(sides[1].trim()));
            }
        }
        due.holds(part + " " + words + ": has a due answer", asked > 0);
    }

    private void check(String part, String words, String step, int got, int want) {
        due.is(part + " \"" + words + "\": " + step + " (" + Talk.word(got) + ")", got, want);
    }

    /** A value ("$" in the call) that is 'first' at first, then low .. high, and nothing else, answering what it was. */
    void becomes(String part, String words, String setUp, String call, int first, int low, int high) {
        names(part, words);
        int[] wrong = {low - 1, high + 1, MIN, MAX, ReelNight.NONE};
        Talk talk = new Talk().tell(setUp);
        set(part, words, talk, call, low, first);
        set(part, words, talk, call, high, low);
        for (int v : wrong) {
            set(part, words, talk, call, v, ReelNight.BAD);
        }
        set(part, words, talk, call, low, high);
        for (int v : wrong) {
            set(part, words, talk, call, v, ReelNight.BAD);
        }
        set(part, words, talk, call, low, low);
    }

    private void set(String part, String words, Talk talk, String call, int v, int want) {
        String step = call.replace("$", Integer.toString(v));
        check(part, words, step, talk.ask(step), want);
    }

    /** Of the values ("$" in the call) low .. high are taken, and no others. */
    void only(String part, String words, String setUp, String call, int low, int high) {
        names(part, words);
        for (int v : new int[] {low, high}) {
            String step = call.replace("$", Integer.toString(v));
            int got = new Talk().tell(setUp).ask(step);
            due.holds(part + " \"" + words + "\": " + step + " is taken, not " + Talk.word(got), got > ReelNight.BAD
                || got == ReelNight.NONE);
        }
        for (int v : new int[] {low - 1, high + 1, MIN, MAX, ReelNight.BAD, ReelNight.NO}) {
            String step = call.replace("$", Integer.toString(v));
            check(part, words, step, new Talk().tell(setUp).ask(step), ReelNight.BAD);
        }
    }

    void close() {
        for (String words : document.unnamed()) {
            due.holds("no test names " + words, false);
        }
        due.close();
    }
}
