/**
 * All that an object can be asked, as one text: two objects of the same text answer alike from here on. The asking
 * changes the object (calls that set something tell what it was, and houses, reels and films come until all are there, so
 * that what was set for one that is not there yet would show, too), so it comes last.
 */
final class Whole {
    private static final int[] FIRST_SHOWS = {0, 5, 14, 40, 80, 300};
    private final Talk talk;
    private final StringBuilder all = new StringBuilder();

    private Whole(Talk talk) {
        this.talk = talk;
    }

    static String of(Talk talk) {
        Whole whole = new Whole(talk);
        whole.night();
        whole.weeks();
        whole.seats();
        whole.fill();
        whole.houses();
        whole.bookings();
        whole.sheets();
        return whole.all.toString();
    }

    private void note(String name, int... args) {
        all.append(name);
        for (int arg : args) {
            all.append(' ').append(arg);
        }
        all.append(" = ").append(Talk.word(talk.ask(name, args))).append('\n');
    }

    private void night() {
        for (int what = 0; what <= 6; what++) {
            note("count", what);
        }
        int reels = talk.ask("count", 1);
        note("riders");
        for (int k = 0; k < talk.ask("count", 2); k++) {
            note("start", k);
            note("begins", k, reels - 1);
            note("cause", k, reels - 1);
            note("waited", k);
        }
        if (reels > 0) {
            for (int minute : FIRST_SHOWS) {
                note("where", 0, minute);
            }
        }
        for (int ride = talk.ask("count", 3) - 1; ride >= 0; ride--) {
            note("late", ride, 0);
        }
    }

    private void weeks() {
        int houses = talk.ask("count", 0);
        for (int week = 0; week < 4; week++) {
            note("shares", week);
            note("checked", week);
            for (int house = 0; house < houses; house++) {
                note("planned", house, week);
            }
        }
    }

    /** How many heads a house takes at most: the seats themselves are told by no call. */
    private void seats() {
        for (int house = talk.ask("count", 0) - 1; house >= 0; house--) {
            int low = 1;
            int high = 999;
            while (low < high) {
                int middle = (low + high + 1) / 2;
                boolean taken = talk.ask("share", house, middle) != ReelNight.BAD;
                low = taken ? middle : low;
                high = taken ? high : middle - 1;
            }
            all.append("seats of ").append(house).append(": ").append(low).append('\n');
        }
    }

    private void fill() {
        for (int i = talk.ask("count", 0); i < 6; i++) {
            note("house", 1, 9);
        }
        for (int i = talk.ask("count", 1); i < 8; i++) {
            note("reel", 9);
        }
        for (int i = talk.ask("count", 4); i < 5; i++) {
            note("film");
        }
    }

    private void houses() {
        for (int house = 0; house < 6; house++) {
            for (int kind = 1; kind <= 3; kind++) {
                note("isOf", house, kind);
            }
            note("slack", house, 0);
            note("least", house, 0);
            for (int other = 0; other < house; other++) {
                note("way", house, other, 0);
                note("bar", house, other, 0);
            }
        }
        for (int reel = 0; reel < 8; reel++) {
            note("told", reel, 0);
            note("told", reel, 2);
        }
    }

    private void bookings() {
        for (int house = 0; house < 6; house++) {
            for (int film = 0; film < 5; film++) {
                note("worth", film, house, 0);
            }
            for (int week = 0; week < 4; week++) {
                note("pin", ReelNight.NONE, house, week);
            }
        }
    }

    private void sheets() {
        for (int which = 0; which < 3; which++) {
            note("rule", which, 0);
        }
        for (int s = 0; s < 2; s++) {
            boolean there = true;
            for (int place = 0; place < 24 && there; place++) {
                int was = talk.ask("mark", s, place, 0);
                there = was > ReelNight.BAD;
                all.append("place ").append(place).append(" of sheet ").append(s).append(": ");
                all.append(Talk.word(was)).append('\n');
            }
        }
    }
}
