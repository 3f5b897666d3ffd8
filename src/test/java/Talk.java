import java.util.Map;

/**
 * Calls on one new object, written as text, no more than the 512 that the document speaks of. "house 0 10" is a call,
 * "@201" the digits of houses 2, 0, 1 in this order, and the constants stand by their names.
 */
final class Talk {
    private static final int MOST_CALLS = 512;
    private static final Map<String, Integer> WORDS = Map.ofEntries(
        Map.entry("BAD", -1000000001), Map.entry("NO", -1000000002), Map.entry("FULL", -1000000003),
        Map.entry("SPENT", -1000000004), Map.entry("NONE", -1000000005), Map.entry("NOTHING", -1000000011),
        Map.entry("INDEX", -1000000013), Map.entry("SIZE", -1000000014), Map.entry("MIN", Integer.MIN_VALUE),
        Map.entry("MAX", Integer.MAX_VALUE));

    private final ReelNight x = new ReelNight();
    private int calls = 0;

    static int number(String word) {
        if (word.startsWith("@")) {
            return digits(word.substring(1));
        }
        Integer named = WORDS.get(word);
        return named != null ? named : Integer.parseInt(word);
    }

    private static int digits(String houses) {
        int all = 0;
        for (char house : houses.toCharArray()) {
            all = all * 7 + house - '0' + 1;
        }
        return all;
    }

    static String word(int answer) {
        for (Map.Entry<String, Integer> e : WORDS.entrySet()) {
            if (e.getValue() == answer) {
                return e.getKey();
            }
        }
        return Integer.toString(answer);
    }

    int calls() {
        return calls;
    }

    /** All calls of a text, between semicolons or lines; none of them may be refused. */
    Talk tell(String text) {
        for (String call : text.strip().split("\\s*[;\n]\\s*")) {
            int got = call.isEmpty() ? 0 : ask(call);
            if (got <= ReelNight.BAD && got != ReelNight.NONE) {
                throw new IllegalStateException(call + " answered " + word(got));
            }
        }
        return this;
    }

    int ask(String call) {
        String[] words = call.trim().split("\\s+");
        int[] args = new int[words.length - 1];
        for (int i = 0; i < args.length; i++) {
            args[i] = number(words[i + 1]);
        }
        return ask(words[0], args);
    }

    int ask(String name, int... a) {
        if (++calls > MOST_CALLS) {
            throw new IllegalStateException("what call " + calls + " of an object answers is free");
        }
        switch (name) {
            case "house": return x.house(a[0], a[1]);
            case "isOf": return x.isOf(a[0], a[1]);
            case "way": return x.way(a[0], a[1], a[2]);
            case "slack": return x.slack(a[0], a[1]);
            case "reel": return x.reel(a[0]);
            case "mend": return x.mend(a[0], a[1]);
            case "told": return x.told(a[0], a[1]);
            case "order": return x.order(a[0]);
            case "start": return x.start(a[0]);
            case "ride": return x.ride(a[0], a[1]);
            case "riders": return x.riders();
            case "late": return x.late(a[0], a[1]);
            case "begins": return x.begins(a[0], a[1]);
            case "waited": return x.waited(a[0]);
            case "cause": return x.cause(a[0], a[1]);
            case "where": return x.where(a[0], a[1]);
            default: return askOfBookings(name, a);
        }
    }

    private int askOfBookings(String name, int... a) {
        switch (name) {
            case "film": return x.film();
            case "worth": return x.worth(a[0], a[1], a[2]);
            case "bar": return x.bar(a[0], a[1], a[2]);
            case "pin": return x.pin(a[0], a[1], a[2]);
            case "plan": return x.plan(a[0], a[1]);
            case "planned": return x.planned(a[0], a[1]);
            case "rule": return x.rule(a[0], a[1]);
            case "least": return x.least(a[0], a[1]);
            case "share": return x.share(a[0], a[1]);
            case "shares": return x.shares(a[0]);
            case "checked": return x.checked(a[0]);
            case "sheet": return x.sheet(a[0], a[1]);
            case "mark": return x.mark(a[0], a[1], a[2]);
            case "copy": return x.copy(a[0], a[1], a[2], a[3], a[4]);
            case "count": return x.count(a[0]);
            default: throw new IllegalArgumentException(name);
        }
    }
}
