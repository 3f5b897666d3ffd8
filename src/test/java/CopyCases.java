/** Copies of every kind between sheets of several sizes, each place of both sheets looked at. */
final class CopyCases {
    private static final int MIN = Integer.MIN_VALUE, MAX = Integer.MAX_VALUE;
    private static final int MISSING = -1;
    private static final int[] SHEETS = {MIN, -1, 0, 1, 2, MAX};
    private static final int[] NUMBERS = {MIN, -1, 0, 1, 2, 3, 4, 24, MAX - 1, MAX};
    private final Due due;
    private final int[] sizes;

    private CopyCases(Due due, int first, int second) {
        this.due = due;
        this.sizes = new int[] {first, second};
    }

    static void all(Due due) {
        int[] sizes = {MISSING, 0, 2, 3};
        for (int first : sizes) {
            for (int second : sizes) {
                new CopyCases(due, first, second).all();
            }
        }
    }

    private void all() {
        for (int from : SHEETS) {
            for (int to : SHEETS) {
                for (int place : NUMBERS) {
                    for (int at : NUMBERS) {
                        for (int many : NUMBERS) {
                            one(from, place, to, at, many);
                        }
                    }
                }
            }
        }
    }

    private void one(int from, int place, int to, int at, int many) {
        Talk talk = new Talk();
        for (int s = 0; s < 2; s++) {
            if (sizes[s] != MISSING) {
                talk.ask("sheet", s, sizes[s]);
            }
            for (int i = 0; i < sizes[s]; i++) {
                talk.ask("mark", s, i, first(s, i));
            }
        }
        int want = due(from, place, to, at, many);
        String call = "sheets of " + sizes[0] + ", " + sizes[1] + ": copy " + from + " " + place + " " + to + " " + at
            + " " + many;
        due.is(call, talk.ask("copy", from, place, to, at, many), want);
        for (int s = 0; s < 2; s++) {
            for (int i = 0; i < sizes[s]; i++) {
                boolean copied = want >= 0 && s == to && i >= at && i < at + many;
                due.is(call + ": place " + i + " of " + s, talk.ask("mark", s, i, 0),
                    copied ? first(from, place + i - at) : first(s, i));
            }
        }
    }

    private static int first(int s, int i) {
        return 10 * s + i + 1;
    }

    private int due(int from, int place, int to, int at, int many) {
        if (from < 0 || from > 1 || to < 0 || to > 1) {
            return ReelNight.BAD;
        }
        if (sizes[from] == MISSING || sizes[to] == MISSING) {
            return ReelNight.NOTHING;
        }
        boolean isThere = place >= 0 && at >= 0 && many >= 0 && (long) place + many <= sizes[from]
            && (long) at + many <= sizes[to];
        return isThere ? many : ReelNight.INDEX;
    }
}
