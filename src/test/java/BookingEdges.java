/** The sentences on bookings: T3, promises 18 to 23. */
final class BookingEdges {
    private static final String ONE = "house 0 9; film";
    private static final String TWO = "house 0 9; house 0 9; film; film";

    private BookingEdges() {
    }

    static void tell(Edges e) {
        filmsAndWorths(e);
        bars(e);
        holds(e);
        pinned(e);
        greatest(e);
        tries(e);
        promisesOfFilms(e);
        promiseOfPlan(e);
        promiseOfPlanned(e);
    }

    private static void filmsAndWorths(Edges e) {
        e.says("T3", "BOOKINGS: FILMS, 5 at most, numbered from 0;", """
            house 0 9; count 4 = 0; worth 0 0 0 = BAD
            film = 0; film = 1; film = 2; film = 3; film = 4; film = FULL
            count 4 = 5; worth 4 0 1 = 0; worth 5 0 1 = BAD; worth -1 0 1 = BAD; pin 4 0 0 = NONE; pin 5 0 0 = BAD
            """);
        for (String call : new String[] {"planned 0 $", "pin 0 0 $", "pin NONE 0 $", "plan $ 20000", "checked $"}) {
            e.only("T3", "WEEKS 0 .. 3.", ONE, call, 0, 3);
        }
        e.only("T3", "WEEKS 0 .. 3.", ONE + "; sheet 0 0", "shares $", 0, 3);
        e.becomes("T3", "WORTH of a FILM at a HOUSE: 0 .. 999 (0 at first).", TWO, "worth 1 1 $", 0, 0, 999);
        e.says("T3", "WORTH of a FILM at a HOUSE: 0 .. 999 (0 at first).", """
            house 0 9; house 0 9; house 0 9; house 0 9; house 0 9; house 0 9; film
            plan 0 63 = 0
            worth 0 0 999; worth 0 1 999; worth 0 2 999; worth 0 3 999; worth 0 4 999; worth 0 5 999; plan 0 63 = 5994
            worth 0 5 1000 = BAD; plan 0 63 = 5994; worth 0 5 0 = 999; plan 0 63 = 4995
            """);
    }

    private static void bars(Edges e) {
        e.becomes("T3", "BARS: between two HOUSES 0 .. 3 weeks:", TWO, "bar 0 1 $", 0, 0, 3);
        e.names("T3", "of one FILM a week at the one and a week at the other one are BAR weeks or more from one another");
        for (int bar = 0; bar <= 3; bar++) {
            for (int week = 0; week <= 3; week++) {
                for (int other = 0; other <= 3; other++) {
                    Talk talk = new Talk().tell(TWO + "; bar 1 0 " + bar + "; pin 0 0 " + week + "; pin 0 1 " + other);
                    int apart = week > other ? week - other : other - week;
                    e.due.is("T3 bar " + bar + ", weeks " + week + " and " + other, talk.ask("plan 3 20000"),
                        apart >= bar ? 0 : ReelNight.NO);
                }
            }
        }
        e.says("T3", "of one FILM a week", TWO + """
            ; bar 0 1 3; pin 0 0 1; pin 1 1 1; plan 1 20000 = 0; pin 0 1 1; plan 1 20000 = NO
            """);
        e.says("T3", "(1: not in the same week; 0, at first: no bar).", TWO + """

            pin 0 0 0; pin 0 1 0; plan 0 20000 = 0
            bar 0 1 1 = 0; plan 0 20000 = NO
            pin NONE 0 0; pin 0 0 1; plan 1 20000 = 0             # right behind it
            bar 0 1 0 = 1; pin 0 0 0; plan 0 20000 = 0
            """);
        e.says("T3", "(1: not in the same week; 0, at first: no bar).", TWO + """

            house 0 9; bar 0 2 1; pin 0 0 0; pin 0 1 0; plan 0 20000 = 0; planned 2 0 = 1     # no bar between 0 and 1
            """);
    }

    private static void holds(Edges e) {
        e.says("T3", "A HOUSE has one FILM a week, or none;", ONE + """
            ; film; worth 0 0 3; worth 1 0 5
            plan 0 20000 = 5; planned 0 0 = 1                     # not both
            pin 0 0 0 = NONE; pin 1 0 0 = 0; plan 0 20000 = 5     # the latter pin alone
            """);
        e.says("T3", "A HOUSE has one FILM a week, or none;", "house 0 9; plan 0 1 = 0; planned 0 0 = NONE");
        e.names("T3", "a FILM is at a HOUSE for 2 weeks at most, the second (a HOLD) right behind the first,");
        // the weeks as bits: none, one, and two that are neighbours
        String standing = " 0 1 2 4 8 3 6 12 ";
        for (int weeks = 0; weeks < 16; weeks++) {
            Talk talk = new Talk().tell(ONE);
            for (int week = 0; week < 4; week++) {
                talk.ask("pin", (weeks >> week & 1) == 1 ? 0 : ReelNight.NONE, 0, week);
            }
            e.due.is("T3 a film pinned in weeks " + Integer.toBinaryString(weeks), talk.ask("plan 3 20000"),
                standing.contains(" " + weeks + " ") ? 0 : ReelNight.NO);
        }
        e.says("T3", "a FILM is at a HOUSE for 2 weeks at most,", ONE + """
            ; worth 0 0 8; plan 0 99 = 8; plan 1 99 = 12; plan 2 99 = 12; plan 3 99 = 12
            planned 0 0 = 0; planned 0 1 = 0; planned 0 2 = NONE; planned 0 3 = NONE
            house 0 9; worth 0 1 2; plan 3 20000 = 15; planned 1 0 = 0; planned 1 1 = 0     # each house by itself
            """);
        e.says("T3", "with half its WORTH (cut).", ONE + """
            ; worth 0 0 999; plan 1 99 = 1498; worth 0 0 1; plan 1 99 = 1; planned 0 1 = 0; worth 0 0 2; plan 1 99 = 3
            worth 0 0 3; plan 1 99 = 4; worth 0 0 0; plan 1 99 = 0; planned 0 1 = 0
            """);
        // film 1 in between: film 0 in week 2 would not be right behind
        e.says("T3", "the second (a HOLD) right behind the first,", ONE + """
            ; film; worth 0 0 10; pin 1 0 1; plan 2 20000 = 10; planned 0 0 = 0; planned 0 1 = 1; planned 0 2 = 1
            """);
    }

    private static void pinned(Edges e) {
        e.says("T3", "PINNED may be a FILM at a HOUSE in a week (by hand).", TWO + """

            worth 0 0 9; worth 0 1 9; plan 0 20000 = 18
            pin 1 1 0 = NONE; plan 0 20000 = 9; planned 0 0 = 0; planned 1 0 = 1
            pin NONE 1 0 = 1; plan 0 20000 = 18; planned 1 0 = 0
            """);
        e.says("T3", "THE PLAN: of all plans that keep what is PINNED, BARS and HOLDS,", TWO + """

            worth 0 0 10; worth 0 1 9; bar 0 1 1
            plan 0 20000 = 10; planned 0 0 = 0; planned 1 0 = 1
            pin 0 1 0; plan 0 20000 = 9; planned 0 0 = 1; planned 1 0 = 0       # the pin, though it is worth less
            pin 0 0 0; plan 0 20000 = NO; planned 0 0 = 1
            """);
        e.says("T3", "THE PLAN: of all plans that keep what is PINNED, BARS and HOLDS,", ONE + """
            ; worth 0 0 8; pin 0 0 3
            plan 3 20000 = 12; planned 0 0 = NONE; planned 0 1 = NONE; planned 0 2 = 0; planned 0 3 = 0
            plan 2 20000 = 12; planned 0 0 = 0; planned 0 1 = 0; planned 0 3 = NONE     # a pin behind the last week
            """);
    }

    private static void greatest(Edges e) {
        e.says("T3", "that of the greatest WORTHS together;", TWO + """

            worth 0 0 5; worth 1 0 4; worth 0 1 9; bar 0 1 1
            plan 0 20000 = 13; planned 0 0 = 1; planned 1 0 = 0
            worth 1 0 0; plan 0 20000 = 9; worth 0 0 9; plan 0 20000 = 9; planned 0 0 = 0
            worth 0 0 10; plan 0 20000 = 10; planned 0 0 = 0
            """);
        // film 0 can be in week 0 at house 1 or in week 1 at house 0, for the same worth
        e.says("T3", "of several the first: by weeks, then HOUSES,", TWO + """

            film; worth 0 0 5; worth 0 1 5; bar 0 1 2; pin 1 0 0; pin 2 1 1
            plan 1 20000 = 5; planned 1 0 = 0; planned 0 1 = 1
            """);
        e.says("T3", "the lesser FILM at the first at which they differ (none is behind all).", TWO + """

            film; film; film; plan 0 20000 = 0; planned 0 0 = 0; planned 1 0 = 0
            bar 0 1 1; plan 0 20000 = 0; planned 0 0 = 0; planned 1 0 = 1
            pin 0 1 0; plan 0 20000 = 0; planned 0 0 = 1
            worth 4 0 1; plan 0 20000 = 1; planned 0 0 = 4
            worth 3 0 1; plan 0 20000 = 1; planned 0 0 = 3
            """);
        e.says("T3", "(none is behind all).", ONE + """
            ; plan 3 20000 = 0; planned 0 0 = 0; planned 0 1 = 0; planned 0 2 = NONE; planned 0 3 = NONE
            """);
    }

    /** How many tries a search takes: so many stand, one less is spent. */
    private static void takes(Edges e, String words, String setUp, int last, int tries) {
        e.names("T3", words);
        Talk talk = new Talk().tell(setUp);
        String run = "T3 \"" + words + "\" " + setUp + ": plan " + last + " ";
        if (tries > 1) {
            e.due.is(run + (tries - 1), talk.ask("plan", last, tries - 1), ReelNight.SPENT);
        }
        e.due.is(run + tries, talk.ask("plan", last, tries), 0);
    }

    private static void tries(Edges e) {
        String sought = "It is sought by weeks, then HOUSES, FILMS by number, none last";
        // weeks first: film 0, then none or the pin (1, 1); none, then film 0 at house 1, each with the pin (1, 2)
        takes(e, sought, "house 0 9; house 0 9; film; bar 0 1 1; pin 0 0 1", 1, 5);
        takes(e, sought, TWO, 0, 2 + 3 * 2);
        takes(e, "(where one is PINNED just that one):", TWO + "; pin 1 1 0", 0, 2 + 3);
        takes(e, "(where one is PINNED just that one):", TWO + "; pin 1 1 0; pin 0 0 0", 0, 2);
        String put = "a FILM that may be there by all that was put ahead is put (a TRY).";
        takes(e, put, TWO + "; bar 0 1 1", 0, 2 + 2 * 1 + 2);
        // film 0 at house 0 is put, though the pin can't be behind it; then none, and the pin
        takes(e, put, "house 0 9; house 0 9; film; bar 0 1 1; pin 0 1 0", 0, 2);
        takes(e, put, ONE, 0, 1);
        takes(e, put, "house 0 9; house 0 9; house 0 9; house 0 9; house 0 9; house 0 9", 3, 1);
        // weeks 0 1 2, a film put or not: 1; 11, 10, 01; 110, 011, 010, 001
        takes(e, put, ONE, 2, 1 + 2 + 2);
        String spent = "SPENT: more than so many TRIES would be done.";
        takes(e, spent, "house 0 9; house 0 9; house 0 9; house 0 9; house 0 9; film; film; pin 1 0 1; pin 1 4 1; pin 1 4 2; "
            + "bar 0 3 3; bar 1 3 2; bar 2 3 3", 2, 20000);
        e.says("T3", spent, TWO + """
            ; film; film; film; house 0 9; plan 0 214 = SPENT; planned 0 0 = NONE; plan 0 215 = 0
            plan 1 20000 = SPENT; planned 0 0 = 0; planned 0 1 = NONE
            """);
        // the first way is the best at once, and the others are tried all the same
        e.says("T3", "(All ways are tried.)", ONE + "; worth 0 0 999; pin 0 0 0; plan 1 1 = SPENT; plan 1 2 = 1498; pin NONE 0 0; "
            + "plan 1 2 = SPENT; plan 1 3 = 1498");
    }

    private static void promisesOfFilms(Edges e) {
        e.says("P18", "One more FILM: its number.", "film = 0; film = 1; count 4 = 2");
        e.says("P18", "FULL.", "film; film; film; film; film = 4; film = FULL; film = FULL; count 4 = 5");
        e.says("P19", "WORTH of a FILM at a HOUSE becomes v: what it was.", TWO + """

            worth 0 1 999 = 0; worth 0 1 0 = 999; worth 0 1 7 = 0; worth 1 1 8 = 0; worth 0 0 9 = 0; worth 0 1 7 = 7
            """);
        e.only("P19", "BAD.", TWO, "worth $ 0 1", 0, 1);
        e.only("P19", "BAD.", TWO, "worth 0 $ 1", 0, 1);
        e.only("P19", "BAD.", TWO, "worth 1 1 $", 0, 999);
        e.says("P19", "BAD.", TWO + "; worth NONE 0 1 = BAD");
        e.says("P20", "The BAR between two HOUSES becomes v: what it was.", TWO + """

            house 0 9; bar 0 1 3 = 0; bar 1 0 2 = 3; bar 0 1 2 = 2; bar 0 2 1 = 0; bar 1 2 1 = 0; way 0 1 9 = 10
            """);
        e.only("P20", "BAD.", TWO, "bar 0 $ 1", 1, 1);
        e.only("P20", "BAD.", TWO, "bar $ 0 1", 1, 1);
        e.only("P20", "BAD.", TWO, "bar $ 1 1", 0, 0);
        e.only("P20", "BAD.", TWO, "bar 0 1 $", 0, 3);
        // a bar of a house with itself would forbid the hold
        e.says("P20", "BAD.", ONE + """
            ; worth 0 0 8; bar 0 0 0 = BAD; bar 0 0 3 = BAD; plan 1 20000 = 12; planned 0 1 = 0
            """);
        e.says("P21", "A FILM is PINNED at a HOUSE in a week (NONE: nothing is): what was (NONE).", TWO + """

            pin NONE 1 3 = NONE; pin 0 1 3 = NONE; pin 1 1 3 = 0; pin NONE 1 3 = 1; pin NONE 1 3 = NONE
            pin 1 0 0 = NONE; pin 1 1 0 = NONE; pin 1 0 3 = NONE; pin 1 0 0 = 1
            """);
        e.only("P21", "BAD.", TWO, "pin $ 1 3", 0, 1);
        e.only("P21", "BAD.", TWO, "pin 1 $ 3", 0, 1);
        e.only("P21", "BAD.", TWO, "pin NONE $ 3", 0, 1);
        e.only("P21", "BAD.", TWO, "pin 1 1 $", 0, 3);
    }

    private static void promiseOfPlan(Edges e) {
        e.says("P22", "THE PLAN is made for weeks 0 .. last,", ONE + """
            ; film; worth 0 0 8; worth 1 0 4; plan 0 20000 = 8; plan 1 20000 = 12; plan 2 20000 = 16; plan 3 20000 = 18
            """);
        e.only("P22", "with so many TRIES (1 .. 20000):", "house 0 9", "plan 0 $", 1, 20000);
        e.says("P22", "its WORTHS together", TWO + "; worth 0 0 7; worth 1 1 9; plan 0 20000 = 16; plan 1 20000 = 23");
        e.says("P22", "(later weeks have nothing).", ONE + """
            ; pin 0 0 3; plan 3 20000 = 0; planned 0 2 = 0; planned 0 3 = 0
            plan 0 20000 = 0; planned 0 0 = 0; planned 0 1 = NONE; planned 0 2 = NONE; planned 0 3 = NONE
            """);
        e.only("P22", "BAD;", ONE, "plan $ 20000", 0, 3);
        // week 0 takes 6 tries in 7 ways, each with the first pin (7); the second one may never be there
        e.says("P22", "SPENT; NO: there is none.", TWO + """

            bar 0 1 1; plan 0 20000 = 0; planned 0 0 = 0; planned 1 0 = 1
            pin 0 0 1; pin 0 1 1
            plan 1 13 = NO; plan 1 12 = SPENT; plan 1 1 = SPENT; plan 1 0 = BAD; plan 1 20001 = BAD; plan 4 1 = BAD
            plan -1 1 = BAD
            planned 0 0 = 0; planned 1 0 = 1; planned 0 1 = NONE; planned 1 1 = NONE
            """);
    }

    private static void promiseOfPlanned(Edges e) {
        e.says("P23", "The FILM at a HOUSE in a week by the latest PLAN;", ONE + """
            ; plan 0 20000; planned 0 0 = 0; film; worth 1 0 5; planned 0 0 = 0; plan 0 20000 = 5; planned 0 0 = 1
            pin 0 0 0; planned 0 0 = 1; plan 0 1 = 0; planned 0 0 = 0
            plan 3 1 = SPENT; planned 0 0 = 0                          # a refused one is none
            """);
        e.says("P23", "NONE.", ONE + """
            ; planned 0 0 = NONE; planned 0 3 = NONE; plan 0 20000; planned 0 1 = NONE
            house 0 9; planned 1 0 = NONE                              # a house behind the latest plan
            """);
        e.only("P23", "BAD.", TWO, "planned $ 0", 0, 1);
        e.only("P23", "BAD.", TWO, "planned 1 $", 0, 3);
    }
}
