import java.util.ArrayList;
import java.util.List;

/** Each refused call of each kind, in several states: what it answers, and that it changes nothing that can be asked. */
public final class RefusalTest {
    private static final int MIN = Integer.MIN_VALUE, MAX = Integer.MAX_VALUE;
    private static final Due due = new Due();

    private static final State NEW = new State("a new object", "");
    private static final State BARE = new State("no reel", "house 0 10; house 1 20; house 3 30; film; worth 0 1 5; "
        + "least 1 6; pin 0 2 1; plan 1 99; sheet 1 3; mark 1 2 4");
    private static final State RICH = new State("something of all", """
        house 0 10; house 1 20; house 2 30; house 3 999
        way 0 2 3; way 0 3 0; way 1 3 99; slack 0 2; slack 1 9; slack 3 1
        reel 9600; reel 960; reel 20000; mend 0 5; mend 2 700; mend 2 1
        order @2031; late 0 7; late 4 30; late 8 200
        film; film; film; worth 0 0 9; worth 1 0 999; worth 2 3 40; worth 1 2 5
        bar 0 1 1; bar 2 3 2; bar 0 3 3; pin 1 0 0; pin 2 3 0; pin 0 1 1; pin 1 2 3; plan 0 20000
        rule 0 55; rule 1 70; rule 2 -9; least 1 20; least 3 9999
        sheet 0 20; mark 0 0 9; mark 0 1 20; mark 0 7 -1; mark 0 19 300; sheet 1 5; mark 1 0 1; mark 1 4 32767
        """);
    private static final State FULL = new State("all that can be", """
        house 0 1; house 1 2; house 2 3; house 3 4; house 0 998; house 1 999
        reel 1; reel 20000; reel 5000; reel 960; reel 1920; reel 1919; reel 7; reel 8; mend 7 3
        order @543210; late 0 1; late 39 200; late 20 55; way 4 5 1; slack 5 9
        film; film; film; film; film; worth 4 5 999; worth 0 0 1; bar 0 5 3; bar 1 2 1
        pin 4 0 0; pin 3 1 0; pin 2 2 0; pin 1 3 0; pin 0 4 0; pin 0 5 0; pin 0 5 1; pin 0 0 3; plan 0 99
        sheet 0 24; mark 0 23 998; mark 0 4 5; sheet 1 24; mark 1 0 -5; mark 1 23 6; least 1 3; rule 2 99; rule 1 50
        """);

    private RefusalTest() {
    }

    /** How to come to a state, and what all its answers are there. */
    private static final class State {
        final String name;
        final String calls;
        final String whole;

        State(String name, String calls) {
            this.name = name;
            this.calls = calls;
            this.whole = Whole.of(reached());
        }

        Talk reached() {
            return new Talk().tell(calls);
        }

        int many(int what) {
            return reached().ask("count", what);
        }

        /** The first line in which an object differs from this state, or none. */
        String differs(Talk talk) {
            String[] now = Whole.of(talk).split("\n");
            String[] was = whole.split("\n");
            for (int i = 0; i < Math.max(now.length, was.length); i++) {
                String a = i < was.length ? was[i] : "nothing";
                String b = i < now.length ? now[i] : "nothing";
                if (!a.equals(b)) {
                    return a + ", then " + b;
                }
            }
            return "";
        }
    }

    public static void main(String[] args) {
        for (State state : new State[] {NEW, BARE, RICH, FULL}) {
            allBad(state);
        }
        otherRefusals();
        firstOfSeveral();
        plansRefused();
        questions();
        CopyCases.all(due);
        due.close();
    }

    private static void refused(State state, String call, String want) {
        Talk talk = state.reached();
        due.is(state.name + ": " + call, talk.ask(call), Talk.number(want));
        String differs = state.differs(talk);
        due.holds(state.name + ": refused, " + call + " changed " + differs, differs.isEmpty());
    }

    private static void allRefused(State state, String want, String... calls) {
        for (String call : calls) {
            refused(state, call, want);
        }
    }

    // ---- BAD: every argument around its bounds, with every other argument around its own

    private static void allBad(State state) {
        int houses = state.many(0) - 1;
        int reels = state.many(1) - 1;
        int nights = state.many(2) - 1;
        int rides = state.many(3) - 1;
        int films = state.many(4) - 1;
        bad(state, "house", 0, 3, 1, 999);
        bad(state, "isOf", 0, houses, 0, 3);
        bad(state, "way", 0, houses, 0, houses, 0, 99);
        bad(state, "slack", 0, houses, 0, 9);
        bad(state, "reel", 1, 20000);
        bad(state, "mend", 0, reels, 1, 20000);
        bad(state, "told", 0, reels, 0, 2);
        bad(state, "start", 0, nights);
        bad(state, "ride", 0, rides, 0, 4);
        bad(state, "late", 0, rides, 0, 200);
        bad(state, "begins", 0, nights, 0, reels);
        bad(state, "waited", 0, nights);
        bad(state, "cause", 0, nights, 0, reels);
        bad(state, "where", 0, reels, 0, 9999);
        bad(state, "worth", 0, films, 0, houses, 0, 999);
        bad(state, "bar", 0, houses, 0, houses, 0, 3);
        bad(state, "pin", 0, films, 0, houses, 0, 3);
        bad(state, "plan", 0, 3, 1, 20000);
        bad(state, "planned", 0, houses, 0, 3);
        bad(state, "least", 0, houses, 0, 9999);
        bad(state, "share", 0, houses, 0, 999);
        bad(state, "shares", 0, 3);
        bad(state, "checked", 0, 3);
        bad(state, "count", 0, 6);
        for (int house : around(0, houses)) {
            refused(state, "way " + house + " " + house + " 5", "BAD");
            refused(state, "bar " + house + " " + house + " 1", "BAD");
            if (house < 0 || house > houses) {
                refused(state, "pin NONE " + house + " 0", "BAD");
            }
        }
        allRefused(state, "BAD", "worth NONE 0 1", "rule 0 -1", "rule 0 101", "rule 0 MIN", "rule 0 MAX", "rule 1 -1", "rule 1 101",
            "rule 1 MIN", "rule 1 MAX");
        for (String which : new String[] {"-1", "3", "MIN", "MAX"}) {
            allRefused(state, "BAD", "rule " + which + " 0", "rule " + which + " 100", "rule " + which + " 101");
        }
        badOrders(state);
        badSheets(state);
    }

    private static List<Integer> around(int low, int high) {
        List<Integer> values = new ArrayList<>(List.of(low - 1, high + 1, MIN, MAX));
        if (low <= high) {
            values.add(low);
            values.add(high);
        }
        return values;
    }

    /** The bounds are a low and a high one for each argument; a call with one argument outside them is BAD. */
    private static void bad(State state, String name, int... bounds) {
        badFrom(state, name, bounds, new int[bounds.length / 2], 0, false);
    }

    private static void badFrom(State state, String name, int[] bounds, int[] args, int at, boolean wrong) {
        if (at < args.length) {
            int low = bounds[2 * at];
            int high = bounds[2 * at + 1];
            for (int v : around(low, high)) {
                args[at] = v;
                badFrom(state, name, bounds, args, at + 1, wrong || v < low || v > high);
            }
        } else if (wrong) {
            StringBuilder call = new StringBuilder(name);
            for (int arg : args) {
                call.append(' ').append(arg);
            }
            refused(state, call.toString(), "BAD");
        }
    }

    private static void badOrders(State state) {
        allRefused(state, "BAD", "order -1", "order MIN", "order MAX", "order 7", "order 14", "order 49", "order 51", "order 8",
            "order 16", "order @010", "order @0123450", "order 117648", "order 117649", "order NONE");
        for (int house = state.many(0); house < 6; house++) {
            allRefused(state, "BAD", "order @" + house, "order @0" + house, "order @" + house + "0");
        }
    }

    private static void badSheets(State state) {
        for (String s : new String[] {"-1", "2", "MIN", "MAX"}) {
            for (String n : new String[] {"0", "24", "25", "-1", "MIN", "MAX"}) {
                allRefused(state, "BAD", "sheet " + s + " " + n, "mark " + s + " " + n + " 1");
                allRefused(state, "BAD", "copy " + s + " 0 0 0 " + n, "copy 0 " + n + " " + s + " 0 1",
                    "copy " + s + " " + n + " " + s + " 0 0");
            }
        }
        allRefused(state, "BAD", "sheet 0 25", "sheet 1 25", "sheet 0 MAX", "sheet 1 MAX");
    }

    // ---- the other refusals

    private static void otherRefusals() {
        allRefused(FULL, "FULL", "house 0 1", "house 3 999", "reel 1", "reel 20000", "film");
        allRefused(NEW, "NO", "order 0");
        allRefused(BARE, "NO", "order 0", "order @0", "order @2", "order @210");
        allRefused(RICH, "NO", "least 0 0", "least 0 9999", "least 2 0", "least 2 9999");
        allRefused(NEW, "NOTHING", "shares 0", "shares 3", "mark 0 0 1", "mark 1 23 1", "copy 0 0 1 0 0", "copy 1 0 1 0 0");
        allRefused(BARE, "NOTHING", "shares 0", "shares 3", "mark 0 0 1", "copy 0 0 1 0 1", "copy 1 0 0 0 1", "copy 0 0 0 0 0");
        allRefused(BARE, "INDEX", "mark 1 3 1", "mark 1 -1 1", "mark 1 MIN 1", "mark 1 MAX 1", "copy 1 0 1 0 4", "copy 1 3 1 0 1");
        allRefused(RICH, "INDEX", "mark 0 20 1", "mark 0 -1 1", "mark 1 5 1", "mark 1 20 1", "copy 0 0 1 0 6", "copy 0 16 1 0 5",
            "copy 0 0 1 1 5", "copy 1 0 0 16 5", "copy 0 0 0 1 20", "copy 0 -1 1 0 1", "copy 0 0 1 -1 1", "copy 0 0 1 0 -1");
        allRefused(FULL, "INDEX", "mark 0 24 1", "mark 1 24 1", "copy 0 0 1 0 25", "copy 0 24 1 0 1", "copy 1 23 0 0 2");
        for (State state : new State[] {NEW, BARE, RICH, FULL}) {
            allRefused(state, "SIZE", "sheet 0 -1", "sheet 1 -1", "sheet 0 MIN", "sheet 1 MIN");
        }
    }

    private static void firstOfSeveral() {
        allRefused(FULL, "BAD", "house 4 1", "house -1 1", "house 0 0", "house 0 1000", "reel 0", "reel 20001");
        allRefused(NEW, "BAD", "order 1", "order -1", "order 7", "order 8", "shares 4", "shares -1", "where 0 0");
        allRefused(BARE, "BAD", "order 7", "order 8", "order @3", "shares 4", "shares -1", "mark 2 -1 0", "sheet 2 -1", "sheet -1 MIN");
        allRefused(RICH, "BAD", "least 0 10000", "least 2 -1", "least 4 0", "sheet 2 -1", "mark 2 99 0", "copy 2 99 0 0 1");
        allRefused(NEW, "NOTHING", "mark 0 -1 1", "mark 0 24 1", "copy 0 -1 1 0 1", "copy 0 0 1 99 -1");
        allRefused(BARE, "NOTHING", "copy 1 9 0 0 1", "copy 0 0 1 9 1", "copy 1 0 0 9 MAX");
    }

    /** In week 1 film 0 is pinned where a bar forbids it: all ways take 13 tries and end without a plan. */
    private static void plansRefused() {
        State pinned = new State("pins against a bar", "house 0 9; house 0 9; film; film; worth 0 0 5; bar 0 1 1; plan 1 999; "
            + "pin 0 0 1; pin 0 1 1");
        allRefused(pinned, "NO", "plan 1 13", "plan 1 20000");
        allRefused(pinned, "SPENT", "plan 1 12", "plan 1 1", "plan 3 1");
        allRefused(pinned, "BAD", "plan 1 0", "plan 1 20001", "plan 4 12", "plan -1 12", "plan 4 0");
        allRefused(RICH, "SPENT", "plan 3 1", "plan 1 2", "plan 0 1");
        allRefused(FULL, "SPENT", "plan 0 1", "plan 3 20000");
    }

    /** Calls that only ask change nothing, either. */
    private static void questions() {
        for (State state : new State[] {NEW, BARE, RICH, FULL}) {
            for (String call : new String[] {"isOf 0 1", "told 0 1", "start 1", "ride 0 3", "riders", "begins 1 0", "waited 1",
                "cause 1 0", "where 0 50", "planned 0 0", "share 0 1", "shares 0", "checked 3", "count 5"}) {
                Talk talk = state.reached();
                int first = talk.ask(call);
                due.is(state.name + ": again " + call, talk.ask(call), first);
                String differs = state.differs(talk);
                due.holds(state.name + ": " + call + " changed " + differs, differs.isEmpty());
            }
        }
    }
}
