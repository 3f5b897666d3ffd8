import java.util.ArrayList;
import java.util.HashMap;
import java.util.List;
import java.util.Map;

/** The document's words once more, written for plainness alone: each answer is sought from the terms themselves. */
final class Model {
    private static final int BAD = -1000000001, NO = -1000000002, FULL = -1000000003, SPENT = -1000000004;
    private static final int NONE = -1000000005, NOTHING = -1000000011, INDEX = -1000000013, SIZE = -1000000014;

    private final List<int[]> houses = new ArrayList<>(); // kind, seats, slack, least
    private final List<int[]> reels = new ArrayList<>(); // frames, mended
    private final Map<String, Integer> ways = new HashMap<>();
    private final Map<String, Integer> bars = new HashMap<>();
    private final Map<String, Integer> worths = new HashMap<>();
    private final Map<String, Integer> pins = new HashMap<>();
    private Map<String, Integer> plan = new HashMap<>();
    private List<Integer> order = new ArrayList<>();
    private final Map<Integer, Integer> lates = new HashMap<>();
    private final int[] rules = {40, 20, 1};
    private final short[][] sheets = new short[2][];
    private int films = 0;

    private static String key(int a, int b) {
        return a + "," + b;
    }

    private static String pair(int a, int b) {
        return key(Math.min(a, b), Math.max(a, b));
    }

    private boolean noHouse(int h) {
        return h < 0 || h >= houses.size();
    }

    private boolean noReel(int r) {
        return r < 0 || r >= reels.size();
    }

    private boolean noFilm(int f) {
        return f < 0 || f >= films;
    }

    private static boolean not(int v, int low, int high) {
        return v < low || v > high;
    }

    private static int was(Integer v, int first) {
        return v == null ? first : v;
    }

    int call(String name, int[] a) {
        switch (name) {
            case "house": return house(a[0], a[1]);
            case "isOf": return isOf(a[0], a[1]);
            case "way":
                return noHouse(a[0]) || noHouse(a[1]) || a[0] == a[1] || not(a[2], 0, 99) ? BAD
                    : was(ways.put(pair(a[0], a[1]), a[2]), 10);
            case "slack": return noHouse(a[0]) || not(a[1], 0, 9) ? BAD : swap(houses.get(a[0]), 2, a[1]);
            case "reel": return reel(a[0]);
            case "mend": return mend(a[0], a[1]);
            case "told":
                return noReel(a[0]) || not(a[1], 0, 2) ? BAD
                    : new int[] {reels.get(a[0])[0], minutes(a[0]), reels.get(a[0])[1]}[a[1]];
            case "order": return order(a[0]);
            case "start": return not(a[0], 0, order.size() - 1) ? BAD : start(a[0]);
            case "ride": return not(a[0], 0, rides() - 1) || not(a[1], 0, 4) ? BAD : ride(a[0])[a[1]];
            case "riders": return riders();
            case "late": return not(a[0], 0, rides() - 1) || not(a[1], 0, 200) ? BAD : was(lates.put(a[0], a[1]), 0);
            case "begins": return not(a[0], 0, order.size() - 1) || noReel(a[1]) ? BAD : begin(a[0], a[1]);
            case "waited": return not(a[0], 0, order.size() - 1) ? BAD : waited(a[0]);
            case "cause": return not(a[0], 0, order.size() - 1) || noReel(a[1]) ? BAD : cause(a[0], a[1]);
            case "where": return where(a[0], a[1]);
            default: return bookingOrReceipt(name, a);
        }
    }

    private int bookingOrReceipt(String name, int[] a) {
        switch (name) {
            case "film": return films == 5 ? FULL : films++;
            case "worth":
                return noFilm(a[0]) || noHouse(a[1]) || not(a[2], 0, 999) ? BAD
                    : was(worths.put(key(a[0], a[1]), a[2]), 0);
            case "bar":
                return noHouse(a[0]) || noHouse(a[1]) || a[0] == a[1] || not(a[2], 0, 3) ? BAD
                    : was(bars.put(pair(a[0], a[1]), a[2]), 0);
            case "pin":
                return a[0] != NONE && noFilm(a[0]) || noHouse(a[1]) || not(a[2], 0, 3) ? BAD
                    : was(pins.put(key(a[1], a[2]), a[0]), NONE);
            case "plan": return not(a[0], 0, 3) || not(a[1], 1, 20000) ? BAD : plan(a[0], a[1]);
            case "planned": return noHouse(a[0]) || not(a[1], 0, 3) ? BAD : plan.getOrDefault(key(a[0], a[1]), NONE);
            case "rule":
                return not(a[0], 0, 2) || a[0] < 2 && not(a[1], 0, 100) ? BAD : swap(rules, a[0], a[1]);
            case "least":
                return noHouse(a[0]) || not(a[1], 0, 9999) ? BAD
                    : isOf(a[0], 1) == 0 ? NO : swap(houses.get(a[0]), 3, a[1]);
            case "share": return noHouse(a[0]) || not(a[1], 0, houses.get(a[0])[1]) ? BAD : share(a[0], a[1]);
            case "shares": return shares(a[0]);
            case "checked": return checked(a[0]);
            case "sheet": return sheet(a[0], a[1]);
            case "mark": return mark(a[0], a[1], a[2]);
            case "copy": return copy(a[0], a[1], a[2], a[3], a[4]);
            case "count": return count(a[0]);
            default: throw new IllegalArgumentException(name);
        }
    }

    private static int swap(int[] row, int at, int v) {
        int was = row[at];
        row[at] = v;
        return was;
    }

    private int house(int kind, int seats) {
        if (not(kind, 0, 3) || not(seats, 1, 999)) {
            return BAD;
        }
        if (houses.size() == 6) {
            return FULL;
        }
        houses.add(new int[] {kind, seats, 0, 0});
        return houses.size() - 1;
    }

    private int isOf(int house, int kind) {
        if (noHouse(house) || not(kind, 0, 3)) {
            return BAD;
        }
        int own = houses.get(house)[0];
        return kind == 0 || kind == own || own == 3 && kind == 1 ? 1 : 0;
    }

    private int reel(int frames) {
        if (not(frames, 1, 20000)) {
            return BAD;
        }
        if (reels.size() == 8) {
            return FULL;
        }
        order = new ArrayList<>();
        reels.add(new int[] {frames, 0});
        return reels.size() - 1;
    }

    private int mend(int reel, int n) {
        if (noReel(reel) || not(n, 1, 20000)) {
            return BAD;
        }
        int[] r = reels.get(reel);
        r[0] = r[0] - n < 1 ? 1 : r[0] - n;
        r[1]++;
        return r[0];
    }

    private int minutes(int reel) {
        int m = reels.get(reel)[0] / 960;
        return m < 1 ? 1 : m;
    }

    private int way(int a, int b) {
        return a == b ? 0 : was(ways.get(pair(a, b)), 10);
    }

    private int order(int digits) {
        if (digits < 0) {
            return BAD;
        }
        List<Integer> told = new ArrayList<>();
        String text = digits == 0 ? "" : Integer.toString(digits, 7);
        for (char c : text.toCharArray()) {
            int house = c - '0' - 1;
            if (noHouse(house) || told.contains(house)) {
                return BAD;
            }
            told.add(house);
        }
        if (reels.isEmpty()) {
            return NO;
        }
        order = told;
        lates.clear();
        return told.size();
    }

    private int rides() {
        return Math.max(0, order.size() - 1) * reels.size();
    }

    private int start(int k) {
        int longest = 0;
        for (int r = 0; r < reels.size(); r++) {
            longest = Math.max(longest, minutes(r));
        }
        return k == 0 ? 0 : start(k - 1) + longest + way(order.get(k - 1), order.get(k));
    }

    private int[] ride(int i) {
        int k = i / reels.size() + 1;
        int reel = i % reels.size();
        int from = order.get(k - 1);
        int to = order.get(k);
        int begin = start(k - 1);
        for (int r = 0; r <= reel; r++) {
            begin += minutes(r);
        }
        return new int[] {reel, from, to, begin, begin + way(from, to)};
    }

    /** By hand where that is not too long; else by the greatest flow, a way of seeking that the class does not use. */
    private int riders() {
        int many = rides();
        int[][] all = new int[many][];
        for (int i = 0; i < many; i++) {
            int[] r = ride(i);
            all[i] = new int[] {r[1], r[2], r[3], r[4]};
        }
        if (many <= 10) {
            int[][] table = new int[houses.size()][houses.size()];
            for (int a = 0; a < table.length; a++) {
                for (int b = 0; b < table.length; b++) {
                    table[a][b] = way(a, b);
                }
            }
            return RidersByHand.fewest(all, table);
        }
        return many - flow(all);
    }

    private int flow(int[][] all) {
        int many = all.length;
        int[][] room = new int[2 * many + 2][2 * many + 2];
        for (int a = 0; a < many; a++) {
            room[2 * many][a] = 1;
            room[many + a][2 * many + 1] = 1;
            for (int b = 0; b < many; b++) {
                boolean ahead = all[a][2] < all[b][2] || all[a][2] == all[b][2] && a < b;
                if (ahead && all[a][3] + way(all[a][1], all[b][0]) <= all[b][2]) {
                    room[a][many + b] = 1;
                }
            }
        }
        int flow = 0;
        while (push(room, 2 * many, 2 * many + 1)) {
            flow++;
        }
        return flow;
    }

    private static boolean push(int[][] room, int from, int to) {
        int[] by = new int[room.length];
        java.util.Arrays.fill(by, -1);
        by[from] = from;
        List<Integer> queue = new ArrayList<>(List.of(from));
        for (int head = 0; head < queue.size() && by[to] < 0; head++) {
            int at = queue.get(head);
            for (int next = 0; next < room.length; next++) {
                if (by[next] < 0 && room[at][next] > 0) {
                    by[next] = at;
                    queue.add(next);
                }
            }
        }
        for (int at = to; by[to] >= 0 && at != from; at = by[at]) {
            room[by[at]][at]--;
            room[at][by[at]]++;
        }
        return by[to] >= 0;
    }

    private int lateOf(int k, int reel) {
        return was(lates.get((k - 1) * reels.size() + reel), 0);
    }

    private int free(int k, int reel) {
        return reel == 0 ? start(k) : begin(k, reel - 1) + minutes(reel - 1);
    }

    private int come(int k, int reel) {
        return begin(k - 1, reel) + minutes(reel) + way(order.get(k - 1), order.get(k)) + lateOf(k, reel);
    }

    private int begin(int k, int reel) {
        return k == 0 ? free(k, reel) : Math.max(free(k, reel), come(k, reel));
    }

    private int gap(int k, int reel) {
        return begin(k, reel) - free(k, reel);
    }

    private int waited(int k) {
        int all = gap(k, 0);
        for (int r = 1; r < reels.size(); r++) {
            all += Math.max(0, gap(k, r) - houses.get(order.get(k))[2]);
        }
        return all;
    }

    private int cause(int k, int reel) {
        if (gap(k, reel) == 0) {
            return NONE;
        }
        if (lateOf(k, reel) > 0) {
            return (k - 1) * reels.size() + reel;
        }
        for (int r = reel; r >= 0; r--) {
            int cause = cause(k - 1, r);
            if (cause != NONE) {
                return cause;
            }
        }
        return NONE;
    }

    private int where(int reel, int minute) {
        if (noReel(reel) || not(minute, 0, 9999)) {
            return BAD;
        }
        if (order.isEmpty()) {
            return NONE;
        }
        int at = order.get(0);
        for (int k = 1; k < order.size(); k++) {
            int ended = begin(k - 1, reel) + minutes(reel);
            if (minute >= ended) {
                at = 100 + (k - 1) * reels.size() + reel;
            }
            if (minute >= come(k, reel)) {
                at = order.get(k);
            }
        }
        return at;
    }

    // ---- the plan: all rows of choices that keep the terms, each judged whole

    private int tries;
    private int best;
    private int[] bestRow;

    private int plan(int last, int most) {
        tries = 0;
        best = -1;
        boolean whole = rows(new int[(last + 1) * houses.size()], 0, most);
        if (!whole) {
            return SPENT;
        }
        if (best < 0) {
            return NO;
        }
        plan = new HashMap<>();
        for (int i = 0; i < bestRow.length; i++) {
            plan.put(key(i % houses.size(), i / houses.size()), bestRow[i]);
        }
        return best;
    }

    private boolean rows(int[] row, int filled, int most) {
        if (filled == row.length) {
            int worth = worthOf(row);
            if (worth > best) {
                best = worth;
                bestRow = row.clone();
            }
            return true;
        }
        int pin = was(pins.get(key(filled % houses.size(), filled / houses.size())), NONE);
        for (int choice = 0; choice <= films; choice++) {
            row[filled] = choice == films ? NONE : choice;
            if (pin != NONE && row[filled] != pin || !keeps(row, filled + 1)) {
                continue;
            }
            if (row[filled] != NONE && ++tries > most) {
                return false;
            }
            if (!rows(row, filled + 1, most)) {
                return false;
            }
        }
        return true;
    }

    /** Bars between each two places, and holds of each film at each house. */
    private boolean keeps(int[] row, int filled) {
        int n = houses.size();
        for (int i = 0; i < filled; i++) {
            int same = 0;
            for (int j = 0; j < filled; j++) {
                if (i == j || row[i] == NONE || row[i] != row[j]) {
                    continue;
                }
                int apart = Math.abs(i / n - j / n);
                if (i % n != j % n && apart < was(bars.get(pair(i % n, j % n)), 0)) {
                    return false;
                }
                if (i % n == j % n) {
                    same++;
                    if (same > 1 || apart != 1) {
                        return false;
                    }
                }
            }
        }
        return true;
    }

    private int worthOf(int[] row) {
        int n = houses.size();
        int all = 0;
        for (int i = 0; i < row.length; i++) {
            if (row[i] != NONE) {
                int worth = was(worths.get(key(row[i], i % n)), 0);
                all += i >= n && row[i - n] == row[i] ? worth / 2 : worth;
            }
        }
        return all;
    }

    // ---- receipts

    private int share(int house, int heads) {
        int kind = houses.get(house)[0];
        int price = kind == 0 ? 3 : kind == 1 ? 5 : kind == 2 ? 2 : 8;
        int share = heads * price * rules[0] / 100;
        return kind == 1 || kind == 3 ? Math.max(share, houses.get(house)[3]) : share;
    }

    private int shares(int week) {
        if (not(week, 0, 3)) {
            return BAD;
        }
        if (sheets[0] == null) {
            return NOTHING;
        }
        int all = 0;
        for (int h = 0; h < houses.size(); h++) {
            int at = 6 * week + h;
            int heads = at < sheets[0].length ? sheets[0][at] : 0;
            all += share(h, not(heads, 0, houses.get(h)[1]) ? 0 : heads);
        }
        return all;
    }

    private int checked(int week) {
        if (not(week, 0, 3)) {
            return BAD;
        }
        int bits = 0;
        for (int h = 0; h < houses.size(); h++) {
            int v = rules[2];
            for (int i = 0; i < 6 * week + h + 1; i++) {
                v = v * 1664525 + 1013904223;
            }
            if ((v >>> 8) % 100 < rules[1]) {
                bits += 1 << h;
            }
        }
        return bits;
    }

    private int sheet(int s, int n) {
        if (not(s, 0, 1) || n > 24) {
            return BAD;
        }
        if (n < 0) {
            return SIZE;
        }
        sheets[s] = new short[n];
        return n;
    }

    private int mark(int s, int place, int v) {
        if (not(s, 0, 1)) {
            return BAD;
        }
        if (sheets[s] == null) {
            return NOTHING;
        }
        if (not(place, 0, sheets[s].length - 1)) {
            return INDEX;
        }
        int was = sheets[s][place];
        sheets[s][place] = (short) v;
        return was;
    }

    private int copy(int from, int place, int to, int at, int many) {
        if (not(from, 0, 1) || not(to, 0, 1)) {
            return BAD;
        }
        if (sheets[from] == null || sheets[to] == null) {
            return NOTHING;
        }
        // what the machine itself calls no place is what this copy refuses, too
        try {
            System.arraycopy(sheets[from], place, sheets[to], at, many);
            return many;
        } catch (IndexOutOfBoundsException e) {
            return INDEX;
        }
    }

    private int count(int what) {
        int frames = 0;
        for (int[] r : reels) {
            frames += r[0];
        }
        int there = (sheets[0] == null ? 0 : 1) + (sheets[1] == null ? 0 : 1);
        return not(what, 0, 6) ? BAD
            : new int[] {houses.size(), reels.size(), order.size(), rides(), films, frames, there}[what];
    }
}
