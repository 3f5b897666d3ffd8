import java.util.Arrays;

/**
 * One film for many houses: a print whose reels go from house to house by riders, its bookings by weeks, and the
 * renter's receipts. The calls test what they are given; the classes inside trust what has been tested.
 */
public final class ReelNight {
    public static final int BAD = -1000000001, NO = -1000000002, FULL = -1000000003, SPENT = -1000000004, NONE = -1000000005, NOTHING = -1000000011, INDEX = -1000000013, SIZE = -1000000014;

    private static final int MOST_HOUSES = 6;
    private static final int MOST_REELS = 8;
    private static final int MOST_RIDES = (MOST_HOUSES - 1) * MOST_REELS;
    private static final int MOST_FILMS = 5;
    private static final int WEEKS = 4;
    private static final int PLACES = WEEKS * MOST_HOUSES;
    private static final int SHEETS = 2;

    private static final int KINDS = 4;
    private static final int HOUSE = 0;
    private static final int PALACE = 1;
    private static final int ROYAL = 3;
    private static final int[] PRICES = {3, 5, 2, 8};

    private static final int MOST_SEATS = 999;
    private static final int MOST_SLACK = 9;
    private static final int MOST_WAY = 99;
    private static final int FIRST_WAY = 10;
    private static final int MOST_FRAMES = 20000;
    private static final int FRAMES_A_MINUTE = 960;
    private static final int MOST_LATE = 200;
    private static final int LAST_MINUTE = 9999;
    private static final int ON_A_RIDE = 100;
    private static final int MOST_WORTH = 999;
    private static final int MOST_BAR = 3;
    private static final int MOST_TRIES = 20000;
    private static final int MOST_LEAST = 9999;

    private final Houses houses;
    private final Reels reels;
    private final Night night;
    private final Bookings bookings;
    private final Receipts receipts;

    public ReelNight() {
        houses = new Houses();
        reels = new Reels();
        night = new Night(houses, reels);
        bookings = new Bookings(houses);
        receipts = new Receipts(houses);
    }

    // ---- houses, reels

    public int house(int kind, int seats) {
        if (!within(kind, 0, KINDS - 1) || !within(seats, 1, MOST_SEATS)) {
            return BAD;
        }
        return houses.many >= MOST_HOUSES ? FULL : houses.add(kind, seats);
    }

    public int isOf(int house, int kind) {
        if (!houses.has(house) || !within(kind, 0, KINDS - 1)) {
            return BAD;
        }
        return houses.areOf(house, kind) ? 1 : 0;
    }

    public int way(int house, int other, int v) {
        if (!houses.hasTwo(house, other) || !within(v, 0, MOST_WAY)) {
            return BAD;
        }
        return houses.ways.become(house, other, v);
    }

    public int slack(int house, int v) {
        if (!houses.has(house) || !within(v, 0, MOST_SLACK)) {
            return BAD;
        }
        int was = houses.slacks[house];
        houses.slacks[house] = v;
        return was;
    }

    public int reel(int frames) {
        if (!within(frames, 1, MOST_FRAMES)) {
            return BAD;
        }
        if (reels.many >= MOST_REELS) {
            return FULL;
        }
        night.forget();
        return reels.add(frames);
    }

    public int mend(int reel, int n) {
        if (!reels.has(reel) || !within(n, 1, MOST_FRAMES)) {
            return BAD;
        }
        return reels.shorten(reel, n);
    }

    public int told(int reel, int what) {
        if (!reels.has(reel)) {
            return BAD;
        }
        switch (what) {
            case 0: return reels.frames[reel];
            case 1: return reels.minutes(reel);
            case 2: return reels.mends[reel];
            default: return BAD;
        }
    }

    // ---- a night

    public int order(int digits) {
        if (!night.canBeOrder(digits)) {
            return BAD;
        }
        return reels.many == 0 ? NO : night.takeOrder(digits);
    }

    public int start(int k) {
        if (!night.has(k)) {
            return BAD;
        }
        night.reckonStarts();
        return night.starts[k];
    }

    public int ride(int i, int what) {
        if (!night.hasRide(i)) {
            return BAD;
        }
        Rides rides = night.listRides();
        switch (what) {
            case 0: return rides.reels[i];
            case 1: return rides.froms[i];
            case 2: return rides.tos[i];
            case 3: return rides.begins[i];
            case 4: return rides.ends[i];
            default: return BAD;
        }
    }

    public int riders() {
        return night.listRides().fewestRiders();
    }

    public int late(int ride, int minutes) {
        if (!night.hasRide(ride) || !within(minutes, 0, MOST_LATE)) {
            return BAD;
        }
        int was = night.lates[ride];
        night.lates[ride] = minutes;
        return was;
    }

    public int begins(int k, int reel) {
        if (!night.has(k) || !reels.has(reel)) {
            return BAD;
        }
        night.reckonShows();
        return night.begins[Night.cell(k, reel)];
    }

    public int waited(int k) {
        if (!night.has(k)) {
            return BAD;
        }
        night.reckonShows();
        return night.waitedAt(k);
    }

    public int cause(int k, int reel) {
        if (!night.has(k) || !reels.has(reel)) {
            return BAD;
        }
        night.reckonShows();
        return night.causes[Night.cell(k, reel)];
    }

    public int where(int reel, int minute) {
        if (!reels.has(reel) || !within(minute, 0, LAST_MINUTE)) {
            return BAD;
        }
        if (night.many == 0) {
            return NONE;
        }
        night.reckonShows();
        return night.whereIs(reel, minute);
    }

    // ---- bookings

    public int film() {
        return bookings.films >= MOST_FILMS ? FULL : bookings.addFilm();
    }

    public int worth(int film, int house, int v) {
        if (!bookings.hasFilm(film) || !houses.has(house) || !within(v, 0, MOST_WORTH)) {
            return BAD;
        }
        int cell = Bookings.cell(film, house);
        int was = bookings.worths[cell];
        bookings.worths[cell] = v;
        return was;
    }

    public int bar(int house, int other, int v) {
        if (!houses.hasTwo(house, other) || !within(v, 0, MOST_BAR)) {
            return BAD;
        }
        return bookings.bars.become(house, other, v);
    }

    public int pin(int film, int house, int week) {
        if (film != NONE && !bookings.hasFilm(film) || !houses.has(house) || !isWeek(week)) {
            return BAD;
        }
        int place = place(week, house);
        int was = bookings.pins[place];
        bookings.pins[place] = film;
        return was;
    }

    public int plan(int last, int tries) {
        if (!isWeek(last) || !within(tries, 1, MOST_TRIES)) {
            return BAD;
        }
        return bookings.makePlan(last, tries);
    }

    public int planned(int house, int week) {
        if (!houses.has(house) || !isWeek(week)) {
            return BAD;
        }
        return bookings.latest[place(week, house)];
    }

    // ---- receipts

    public int rule(int which, int v) {
        if (!receipts.mayRule(which, v)) {
            return BAD;
        }
        int was = receipts.rules[which];
        receipts.rules[which] = v;
        return was;
    }

    public int least(int house, int v) {
        if (!houses.has(house) || !within(v, 0, MOST_LEAST)) {
            return BAD;
        }
        if (!houses.areOf(house, PALACE)) {
            return NO;
        }
        int was = houses.leasts[house];
        houses.leasts[house] = v;
        return was;
    }

    public int share(int house, int heads) {
        if (!houses.has(house) || !within(heads, 0, houses.seats[house])) {
            return BAD;
        }
        return receipts.shareOf(house, heads);
    }

    public int shares(int week) {
        if (!isWeek(week)) {
            return BAD;
        }
        return receipts.sheets[0].isMissing() ? NOTHING : receipts.allShares(week);
    }

    public int checked(int week) {
        return isWeek(week) ? receipts.checkedBits(week) : BAD;
    }

    public int sheet(int s, int n) {
        if (!isSheet(s) || n > PLACES) {
            return BAD;
        }
        return n < 0 ? SIZE : receipts.sheets[s].renew(n);
    }

    public int mark(int s, int place, int v) {
        if (!isSheet(s)) {
            return BAD;
        }
        Sheet sheet = receipts.sheets[s];
        if (sheet.isMissing()) {
            return NOTHING;
        }
        return sheet.has(place) ? sheet.become(place, (short) v) : INDEX;
    }

    public int copy(int from, int place, int to, int at, int many) {
        if (!isSheet(from) || !isSheet(to)) {
            return BAD;
        }
        Sheet source = receipts.sheets[from];
        Sheet target = receipts.sheets[to];
        if (source.isMissing() || target.isMissing()) {
            return NOTHING;
        }
        if (!source.spans(place, many) || !target.spans(at, many)) {
            return INDEX;
        }
        System.arraycopy(source.heads, place, target.heads, at, many);
        return many;
    }

    public int count(int what) {
        switch (what) {
            case 0: return houses.many;
            case 1: return reels.many;
            case 2: return night.many;
            case 3: return night.manyRides();
            case 4: return bookings.films;
            case 5: return reels.allFrames();
            case 6: return receipts.sheetsThere();
            default: return BAD;
        }
    }

    private static boolean within(int v, int low, int high) {
        return v >= low && v <= high;
    }

    private static boolean isWeek(int week) {
        return within(week, 0, WEEKS - 1);
    }

    private static boolean isSheet(int s) {
        return within(s, 0, SHEETS - 1);
    }

    private static int place(int week, int house) {
        return MOST_HOUSES * week + house;
    }

    /** A number between each two houses, the same both ways; 0 from a house to itself. */
    private static final class Pairs {
        private final int[] values = new int[MOST_HOUSES * MOST_HOUSES];

        Pairs(int first) {
            for (int house = 0; house < MOST_HOUSES; house++) {
                for (int other = 0; other < MOST_HOUSES; other++) {
                    values[house * MOST_HOUSES + other] = house == other ? 0 : first;
                }
            }
        }

        int between(int house, int other) {
            return values[house * MOST_HOUSES + other];
        }

        int become(int house, int other, int v) {
            int was = between(house, other);
            values[house * MOST_HOUSES + other] = v;
            values[other * MOST_HOUSES + house] = v;
            return was;
        }
    }

    private static final class Houses {
        private final int[] kinds = new int[MOST_HOUSES];
        private final int[] seats = new int[MOST_HOUSES];
        private final int[] slacks = new int[MOST_HOUSES];
        private final int[] leasts = new int[MOST_HOUSES];
        private final Pairs ways = new Pairs(FIRST_WAY);
        private int many = 0;

        boolean has(int house) {
            return house >= 0 && house < many;
        }

        boolean hasTwo(int house, int other) {
            return has(house) && has(other) && house != other;
        }

        int add(int kind, int seatsThere) {
            kinds[many] = kind;
            seats[many] = seatsThere;
            many++;
            return many - 1;
        }

        boolean areOf(int house, int kind) {
            int own = kinds[house];
            return kind == HOUSE || own == kind || kind == PALACE && own == ROYAL;
        }
    }

    private static final class Reels {
        private final int[] frames = new int[MOST_REELS];
        private final int[] mends = new int[MOST_REELS];
        private int many = 0;

        boolean has(int reel) {
            return reel >= 0 && reel < many;
        }

        int add(int framesThere) {
            frames[many] = framesThere;
            many++;
            return many - 1;
        }

        int shorten(int reel, int n) {
            frames[reel] = Math.max(1, frames[reel] - n);
            mends[reel]++;
            return frames[reel];
        }

        int minutes(int reel) {
            return Math.max(1, frames[reel] / FRAMES_A_MINUTE);
        }

        int longest() {
            int most = 0;
            for (int reel = 0; reel < many; reel++) {
                most = Math.max(most, minutes(reel));
            }
            return most;
        }

        int allFrames() {
            int all = 0;
            for (int reel = 0; reel < many; reel++) {
                all += frames[reel];
            }
            return all;
        }
    }

    /**
     * The order and how late each ride is; all else is reckoned anew from these whenever it is asked for, as ways
     * and reels may have changed in between.
     */
    private static final class Night {
        private final Houses houses;
        private final Reels reels;
        private final Rides rides;
        private final int[] order = new int[MOST_HOUSES];
        private final int[] lates = new int[MOST_RIDES];
        private int many = 0;

        private final int[] starts = new int[MOST_HOUSES];
        private final int[] comes = new int[MOST_HOUSES * MOST_REELS];
        private final int[] begins = new int[MOST_HOUSES * MOST_REELS];
        private final int[] gaps = new int[MOST_HOUSES * MOST_REELS];
        private final int[] causes = new int[MOST_HOUSES * MOST_REELS];

        Night(Houses houses, Reels reels) {
            this.houses = houses;
            this.reels = reels;
            this.rides = new Rides(houses.ways);
        }

        static int cell(int k, int reel) {
            return k * MOST_REELS + reel;
        }

        boolean has(int k) {
            return k >= 0 && k < many;
        }

        int manyRides() {
            return many == 0 ? 0 : (many - 1) * reels.many;
        }

        boolean hasRide(int ride) {
            return ride >= 0 && ride < manyRides();
        }

        void forget() {
            many = 0;
        }

        boolean canBeOrder(int digits) {
            if (digits < 0) {
                return false;
            }
            int seen = 0;
            int rest = digits;
            // no more rounds than houses: a digit more would be one of them again
            for (int round = 0; round < MOST_HOUSES && rest > 0; round++) {
                int house = rest % 7 - 1;
                if (!houses.has(house) || (seen >> house & 1) == 1) {
                    return false;
                }
                seen |= 1 << house;
                rest /= 7;
            }
            return rest == 0;
        }

        int takeOrder(int digits) {
            many = 0;
            for (int rest = digits; rest > 0 && many < MOST_HOUSES; rest /= 7) {
                many++;
            }
            int rest = digits;
            for (int k = many - 1; k >= 0; k--) {
                order[k] = rest % 7 - 1;
                rest /= 7;
            }
            Arrays.fill(lates, 0);
            return many;
        }

        private int wayTo(int k) {
            return houses.ways.between(order[k - 1], order[k]);
        }

        private int rideOf(int k, int reel) {
            return (k - 1) * reels.many + reel;
        }

        void reckonStarts() {
            int longest = reels.longest();
            starts[0] = 0;
            for (int k = 1; k < many; k++) {
                starts[k] = starts[k - 1] + longest + wayTo(k);
            }
        }

        Rides listRides() {
            reckonStarts();
            rides.clear();
            for (int k = 1; k < many; k++) {
                int ends = starts[k - 1];
                for (int reel = 0; reel < reels.many; reel++) {
                    ends += reels.minutes(reel);
                    rides.add(reel, order[k - 1], order[k], ends);
                }
            }
            return rides;
        }

        void reckonShows() {
            reckonStarts();
            for (int k = 0; k < many; k++) {
                reckonShow(k);
            }
        }

        private void reckonShow(int k) {
            int free = starts[k];
            for (int reel = 0; reel < reels.many; reel++) {
                int cell = cell(k, reel);
                comes[cell] = comesTo(k, reel);
                begins[cell] = Math.max(free, comes[cell]);
                gaps[cell] = begins[cell] - free;
                causes[cell] = causeOf(k, reel);
                free = begins[cell] + reels.minutes(reel);
            }
        }

        private int endedAt(int k, int reel) {
            return begins[cell(k, reel)] + reels.minutes(reel);
        }

        private int comesTo(int k, int reel) {
            return k == 0 ? 0 : endedAt(k - 1, reel) + wayTo(k) + lates[rideOf(k, reel)];
        }

        private int causeOf(int k, int reel) {
            if (k == 0 || gaps[cell(k, reel)] == 0) {
                return NONE;
            }
            int ride = rideOf(k, reel);
            if (lates[ride] > 0) {
                return ride;
            }
            for (int ahead = reel; ahead >= 0; ahead--) {
                int cause = causes[cell(k - 1, ahead)];
                if (cause != NONE) {
                    return cause;
                }
            }
            return NONE;
        }

        int waitedAt(int k) {
            int slack = houses.slacks[order[k]];
            int all = 0;
            for (int reel = 0; reel < reels.many; reel++) {
                int gap = gaps[cell(k, reel)];
                all += reel == 0 ? gap : Math.max(0, gap - slack);
            }
            return all;
        }

        int whereIs(int reel, int minute) {
            for (int k = 1; k < many; k++) {
                if (minute < endedAt(k - 1, reel)) {
                    return order[k - 1];
                }
                if (minute < comes[cell(k, reel)]) {
                    return ON_A_RIDE + rideOf(k, reel);
                }
            }
            return order[many - 1];
        }
    }

    /** The rides of a night by the starts, and the fewest riders for them. */
    private static final class Rides {
        private final Pairs ways;
        private final int[] reels = new int[MOST_RIDES];
        private final int[] froms = new int[MOST_RIDES];
        private final int[] tos = new int[MOST_RIDES];
        private final int[] begins = new int[MOST_RIDES];
        private final int[] ends = new int[MOST_RIDES];
        private final int[] aheads = new int[MOST_RIDES];
        private final int[] lookedAt = new int[MOST_RIDES];
        private int many = 0;

        Rides(Pairs ways) {
            this.ways = ways;
        }

        void clear() {
            many = 0;
        }

        void add(int reel, int from, int to, int begin) {
            if (many >= MOST_RIDES) {
                return;
            }
            reels[many] = reel;
            froms[many] = from;
            tos[many] = to;
            begins[many] = begin;
            ends[many] = begin + ways.between(from, to);
            many++;
        }

        /** Each ride that is done right behind another one saves a rider: as many such pairs as can be are sought. */
        int fewestRiders() {
            Arrays.fill(aheads, NONE);
            Arrays.fill(lookedAt, NONE);
            int riders = many;
            for (int ride = 0; ride < many; ride++) {
                if (findNext(this, ride, ride, 0)) {
                    riders--;
                }
            }
            return riders;
        }

        /**
         * Finds a ride to do right behind this one, also by moving a rider who does it now to another one. Each
         * level looks at a ride that this round has not looked at, so the depth stays below the number of rides.
         */
        private static boolean findNext(Rides r, int ride, int round, int depth) {
            if (depth > MOST_RIDES) {
                return false;
            }
            for (int next = 0; next < r.many; next++) {
                if (r.lookedAt[next] == round || !r.canFollow(ride, next)) {
                    continue;
                }
                r.lookedAt[next] = round;
                int rival = r.aheads[next];
                if (rival == NONE || findNext(r, rival, round, depth + 1)) {
                    r.aheads[next] = ride;
                    return true;
                }
            }
            return false;
        }

        private boolean canFollow(int a, int b) {
            boolean isAhead = begins[a] < begins[b] || begins[a] == begins[b] && a < b;
            return isAhead && ends[a] + ways.between(tos[a], froms[b]) <= begins[b];
        }
    }

    private static final class Bookings {
        private final Houses houses;
        private final Pairs bars = new Pairs(0);
        private final int[] worths = new int[MOST_FILMS * MOST_HOUSES];
        private final int[] pins = new int[PLACES];
        private final int[] latest = new int[PLACES];
        private final Search search;
        private int films = 0;

        Bookings(Houses houses) {
            this.houses = houses;
            Arrays.fill(pins, NONE);
            Arrays.fill(latest, NONE);
            search = new Search();
        }

        static int cell(int film, int house) {
            return film * MOST_HOUSES + house;
        }

        boolean hasFilm(int film) {
            return film >= 0 && film < films;
        }

        int addFilm() {
            films++;
            return films - 1;
        }

        int makePlan(int last, int tries) {
            search.clear(last, tries);
            Search.seek(this, search, 0);
            if (search.spent) {
                return SPENT;
            }
            if (search.bestSum < 0) {
                return NO;
            }
            System.arraycopy(search.best, 0, latest, 0, PLACES);
            return search.bestSum;
        }

        /** By what the search has put so far, which is never in a later week than this one. */
        boolean mayBe(int film, int house, int week, int[] weeksAt) {
            int own = weeksAt[cell(film, house)];
            if (own != 0 && own << 1 != 1 << week) {
                return false;
            }
            for (int other = 0; other < houses.many; other++) {
                int bar = bars.between(house, other);
                int tooNear = weeksAt[cell(film, other)] >> Math.max(0, week - bar + 1);
                if (bar > 0 && tooNear != 0) {
                    return false;
                }
            }
            return true;
        }
    }

    /** One search for the plan, through all ways; its rows serve every search again. */
    private static final class Search {
        private final int[] trial = new int[PLACES];
        private final int[] best = new int[PLACES];
        // the weeks in which a film is at a house so far, as bits
        private final int[] weeksAt = new int[MOST_FILMS * MOST_HOUSES];
        private int lastWeek = 0;
        private int triesLeft = 0;
        private boolean spent = false;
        private int sum = 0;
        private int bestSum = -1;

        void clear(int last, int tries) {
            Arrays.fill(trial, NONE);
            Arrays.fill(weeksAt, 0);
            lastWeek = last;
            triesLeft = tries;
            spent = false;
            sum = 0;
            bestSum = -1;
        }

        /** The place is the depth: each level goes on to a later one. */
        private static void seek(Bookings b, Search s, int from) {
            int place = s.nextPlace(b, from);
            if (place >= PLACES) {
                s.keepIfBetter();
                return;
            }
            int pinned = b.pins[place];
            if (pinned != NONE) {
                tryFilm(b, s, place, pinned);
                return;
            }
            for (int film = 0; film < b.films && !s.spent; film++) {
                tryFilm(b, s, place, film);
            }
            if (!s.spent) {
                seek(b, s, place + 1);
            }
        }

        private static void tryFilm(Bookings b, Search s, int place, int film) {
            int week = place / MOST_HOUSES;
            int house = place % MOST_HOUSES;
            if (!b.mayBe(film, house, week, s.weeksAt)) {
                return;
            }
            if (s.triesLeft == 0) {
                s.spent = true;
                return;
            }
            s.triesLeft--;
            int cell = Bookings.cell(film, house);
            int before = s.weeksAt[cell];
            int gain = before == 0 ? b.worths[cell] : b.worths[cell] / 2;
            s.trial[place] = film;
            s.weeksAt[cell] = before | 1 << week;
            s.sum += gain;
            seek(b, s, place + 1);
            s.sum -= gain;
            s.weeksAt[cell] = before;
            s.trial[place] = NONE;
        }

        /** The place itself, or the first behind it that has a house; PLACES, if the plan's weeks are over. */
        private int nextPlace(Bookings b, int from) {
            int end = place(lastWeek + 1, 0);
            for (int place = from; place < end; place++) {
                if (b.houses.has(place % MOST_HOUSES)) {
                    return place;
                }
            }
            return PLACES;
        }

        // only a greater sum takes the place: of equal plans the one that was found first stays
        private void keepIfBetter() {
            if (sum > bestSum) {
                bestSum = sum;
                System.arraycopy(trial, 0, best, 0, PLACES);
            }
        }
    }

    private static final class Sheet {
        private static final int MISSING = -1;
        private final short[] heads = new short[PLACES];
        private int size = MISSING;

        boolean isMissing() {
            return size == MISSING;
        }

        boolean has(int place) {
            return place >= 0 && place < size;
        }

        /** Whether so many places stand here; none at all may also stand right behind the last one. */
        boolean spans(int place, int many) {
            return within(place, 0, size) && within(many, 0, size - place);
        }

        int renew(int n) {
            Arrays.fill(heads, (short) 0);
            size = n;
            return n;
        }

        int become(int place, short v) {
            int was = heads[place];
            heads[place] = v;
            return was;
        }
    }

    private static final class Receipts {
        private static final int PERCENT = 0;
        private static final int ODDS = 1;
        private static final int SEED = 2;
        private final Houses houses;
        private final int[] rules = {40, 20, 1};
        private final Sheet[] sheets = {new Sheet(), new Sheet()};

        Receipts(Houses houses) {
            this.houses = houses;
        }

        boolean mayRule(int which, int v) {
            return which == SEED || (which == PERCENT || which == ODDS) && within(v, 0, 100);
        }

        // no house but a palace ever has a least above 0
        int shareOf(int house, int heads) {
            int receipts = heads * PRICES[houses.kinds[house]];
            return Math.max(houses.leasts[house], receipts * rules[PERCENT] / 100);
        }

        int allShares(int week) {
            int all = 0;
            for (int house = 0; house < houses.many; house++) {
                all += shareOf(house, headsToldOf(week, house));
            }
            return all;
        }

        private int headsToldOf(int week, int house) {
            int place = place(week, house);
            if (!sheets[0].has(place)) {
                return 0;
            }
            int heads = sheets[0].heads[place];
            return within(heads, 0, houses.seats[house]) ? heads : 0;
        }

        int checkedBits(int week) {
            int bits = 0;
            int v = rules[SEED];
            int first = place(week, 0);
            for (int draw = 0; draw < first + houses.many; draw++) {
                v = v * 1664525 + 1013904223;
                if (draw >= first && (v >>> 8) % 100 < rules[ODDS]) {
                    bits |= 1 << draw - first;
                }
            }
            return bits;
        }

        int sheetsThere() {
            int there = 0;
            for (int s = 0; s < SHEETS; s++) {
                if (!sheets[s].isMissing()) {
                    there++;
                }
            }
            return there;
        }
    }
}
