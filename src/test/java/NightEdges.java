/** The sentences on a night: T2, promises 9 to 17. The houses' ways are 10 minutes where nothing else is said. */
final class NightEdges {
    private static final String TWO = "house 0 9; house 0 9";
    private static final String THREE = TWO + "; house 0 9";
    private static final String FOUR = TWO + ";" + TWO;
    private static final String SIX = THREE + ";" + THREE;
    /** Three houses, reels of 4, 6 and 2 minutes. */
    private static final String REELS_4_6_2 = THREE + "; reel 3840; reel 5760; reel 1920; ";
    /** Four houses in order, three reels of 4 minutes: starts 0, 14, 28, 42, each reel just in time everywhere. */
    private static final String JUST_IN_TIME = FOUR + "; reel 3840; reel 3840; reel 3840; order @0123; ";
    /** Six houses in order, 99 minutes from one to the next, eight reels of 20 minutes. */
    private static final String LONGEST = SIX + "; way 0 1 99; way 1 2 99; way 2 3 99; way 3 4 99; way 4 5 99;"
        + "reel 20000; reel 20000; reel 20000; reel 20000; reel 20000; reel 20000; reel 20000; reel 20000; order @012345";
    /** The same with no way at all and reels of 1 minute. */
    private static final String SHORTEST = SIX + "; way 0 1 0; way 1 2 0; way 2 3 0; way 3 4 0; way 4 5 0;"
        + "reel 1; reel 1; reel 1; reel 1; reel 1; reel 1; reel 1; reel 1; order @012345";

    private NightEdges() {
    }

    static void tell(Edges e) {
        order(e);
        starts(e);
        inTime(e);
        rides(e);
        ridersBehindOneAnother(e);
        late(e);
        asItGoes(e);
        waited(e);
        cause(e);
        promiseOfOrder(e);
        promisesOfRides(e);
        promisesAsItGoes(e);
        where(e);
    }

    private static void order(Edges e) {
        e.says("T2", "A NIGHT: a row of HOUSES, none twice", THREE + """

            reel 960
            order @00 = BAD; order @11 = BAD; order @010 = BAD; order @0110 = BAD; count 2 = 0
            order @0 = 1; order @01 = 2; order @210 = 3; count 2 = 3
            """);
        e.says("T2", "(THE ORDER; empty at first).", REELS_4_6_2 + """
            count 2 = 0; count 3 = 0; start 0 = BAD; begins 0 0 = BAD; where 0 0 = NONE; riders = 0
            """);
        e.says("T2", "Each shows all REELS in order.", REELS_4_6_2 + """
            order @10
            begins 0 0 = 0; begins 0 1 = 4; begins 0 2 = 10
            begins 1 0 = 16; begins 1 1 = 20; begins 1 2 = 26
            """);
    }

    private static void starts(Edges e) {
        e.says("T2", "THE STARTS: START of the first HOUSE is 0;", REELS_4_6_2 + """
            order @2 = 1; start 0 = 0
            order @102 = 3; late 0 200; start 0 = 0; mend 0 1; way 0 1 99; start 0 = 0
            """);
        String next = "of each next one the START ahead, the greatest MINUTES of a REEL, and WAY between both, together";
        e.says("T2", next, REELS_4_6_2 + """
            way 0 2 3; way 0 1 4; way 1 2 50
            order @201; start 1 = 9; start 2 = 19                       # 6 and 3, 6 and 4
            order @021; start 1 = 9; start 2 = 65                       # 6 and 3, 6 and 50
            way 0 2 0; start 1 = 6; start 2 = 62
            mend 1 5760; start 1 = 4; start 2 = 58                      # the first reel is the longest now
            mend 0 3840; start 1 = 2; start 2 = 54                      # the last one
            """);
        e.says("T2", next, LONGEST + "; start 0 = 0; start 1 = 119; start 5 = 595");
        e.says("T2", next, SHORTEST + "; start 0 = 0; start 1 = 1; start 5 = 5");
        e.says("T2", "By THE STARTS a REEL begins at START and the MINUTES of all ahead of it, and ends its MINUTES later.",
            REELS_4_6_2 + """
            order @120
            begins 1 0 = 16; begins 1 1 = 20; begins 1 2 = 26
            ride 3 3 = 20; ride 4 3 = 26; ride 5 3 = 28                 # ended at the second house
            """);
    }

    private static void inTime(Edges e) {
        e.names("T2", "(so each REEL, that goes on as soon as it has ended there, is there when it is to begin).");
        String[] nights = {LONGEST, SHORTEST, JUST_IN_TIME, REELS_4_6_2 + "order @201", SIX
            + "; way 0 1 0; way 1 2 99; reel 1; reel 20000; reel 5000; reel 960; reel 20000; reel 1919; reel 1; order @530124"};
        for (String night : nights) {
            Talk talk = new Talk().tell(night);
            for (int k = 0; k < talk.ask("count 2"); k++) {
                int start = talk.ask("start " + k);
                for (int reel = 0; reel < talk.ask("count 1"); reel++) {
                    e.due.is("T2 in time without a late ride", talk.ask("begins", k, reel), start);
                    e.due.is("T2 no cause", talk.ask("cause", k, reel), ReelNight.NONE);
                    start += talk.ask("told", reel, 1);
                }
                e.due.is("T2 nobody waits", talk.ask("waited", k), 0);
            }
        }
    }

    private static void rides(Edges e) {
        e.says("T2", "RIDES: for each HOUSE but the first, each REEL:", REELS_4_6_2 + """
            count 3 = 0; ride 0 0 = BAD
            order @1 = 1; count 3 = 0; ride 0 0 = BAD; late 0 0 = BAD
            order @10 = 2; count 3 = 3; ride 2 0 = 2; ride 3 0 = BAD
            order @102 = 3; count 3 = 6; ride 5 0 = 2; ride 6 0 = BAD
            """);
        e.says("T2", "RIDES: for each HOUSE but the first, each REEL:", LONGEST + """

            count 3 = 40; ride 39 0 = 7; ride 39 1 = 4; ride 39 2 = 5; ride 40 0 = BAD; late 39 1 = 0; late 40 1 = BAD
            """);
        e.says("T2", "from the HOUSE ahead in THE ORDER,", REELS_4_6_2 + """
            order @201
            ride 0 1 = 2; ride 0 2 = 0; ride 2 1 = 2; ride 2 2 = 0; ride 3 1 = 0; ride 3 2 = 1; ride 5 1 = 0
            ride 5 2 = 1
            """);
        e.says("T2", "beginning at the minute at which it ends there (by THE STARTS), ending WAY later;", REELS_4_6_2 + """
            order @201; way 0 2 0; way 0 1 99; late 0 200; late 1 200
            ride 0 3 = 4; ride 0 4 = 4; ride 1 3 = 10; ride 1 4 = 10; ride 2 3 = 12; ride 2 4 = 12
            ride 3 3 = 10; ride 3 4 = 109; ride 4 3 = 16; ride 4 4 = 115; ride 5 3 = 18; ride 5 4 = 117
            """);
        e.says("T2", "numbered by HOUSES in THE ORDER, then by REELS.", REELS_4_6_2 + """
            order @201
            ride 0 0 = 0; ride 1 0 = 1; ride 2 0 = 2; ride 3 0 = 0; ride 4 0 = 1; ride 5 0 = 2
            """);
    }

    /** Nights of few rides, in which each clause by itself settles how many riders there must be. */
    private static void ridersBehindOneAnother(Edges e) {
        // rides 0 to 2 begin at 1, 2, 4, rides 3 to 5 at 3, 4, 6: ride 3 goes ahead of ride 2
        e.says("T2", "One RIDER can do RIDE b right behind RIDE a if a begins ahead of b", THREE + """

            way 0 1 0; way 1 2 0; way 0 2 0; reel 960; reel 960; reel 1920; order @012
            ride 2 3 = 4; ride 3 3 = 3; riders = 1
            """);
        // rides 1 and 2 begin at 2, and only ride 1 ends where the other begins
        e.says("T2", "(or at the same minute, a being the lesser number),", THREE + """

            way 0 1 0; way 1 2 0; way 0 2 1; reel 960; reel 960; order @012
            ride 1 3 = 2; ride 2 3 = 2; riders = 1
            """);
        // rides 2 and 3 begin at 7; ride 3 ends at once, where 2 begins, but is the greater number
        e.says("T2", "(or at the same minute, a being the lesser number),", THREE + """

            way 0 1 1; way 1 2 0; way 0 2 0; reel 2880; reel 2880; reel 960; order @012
            ride 2 3 = 7; ride 2 4 = 8; ride 3 3 = 7; ride 3 4 = 7; riders = 2
            """);
        String inTime = "and the minute at which a ends, and WAY from where it ends to where b begins, "
            + "are not above the minute at which b begins.";
        e.says("T2", inTime, TWO + """

            way 0 1 1; reel 960; reel 1920; order @01
            ride 0 4 = 2; ride 1 3 = 3; riders = 1                      # back at 3
            way 0 1 2; ride 0 4 = 3; ride 1 3 = 3; riders = 2           # back at 5
            """);
        e.says("T2", inTime, TWO + """

            way 0 1 5; reel 9600; reel 9600; order @01
            ride 0 4 = 15; ride 1 3 = 20; riders = 1                    # back at 20
            mend 1 1; ride 1 3 = 19; riders = 2
            mend 0 1; ride 0 4 = 14; ride 1 3 = 18; riders = 2          # back at 19
            """);
        String fewest = "THE FEWEST RIDERS: how many are needed for all RIDES.";
        e.says("T2", fewest, LONGEST + "; riders = 8");
        e.says("T2", fewest, SHORTEST + "; riders = 4");
        // giving each ride as it begins to any rider that is free (the first, the last, the nearest) takes three
        e.says("T2", fewest, FOUR + """

            way 0 1 1; way 0 2 3; way 0 3 1; way 1 2 2; way 1 3 2; way 2 3 2
            reel 1920; reel 3840; reel 3840; reel 2880; order @0123; riders = 2
            """);
    }

    private static void late(Edges e) {
        e.becomes("T2", "LATE: so many minutes (0 .. 200) more each RIDE takes", TWO + "; reel 960; order @01", "late 0 $",
            0, 0, 200);
        e.says("T2", "LATE: so many minutes (0 .. 200) more each RIDE takes", TWO + """

            reel 960; order @01; begins 1 0 = 11; late 0 1; begins 1 0 = 12; late 0 200; begins 1 0 = 211
            where 0 210 = 100
            """);
        e.says("T2", "(0 at first; all are 0 whenever THE ORDER is told).", THREE + """

            reel 960; order @012; late 0 0 = 0; late 1 0 = 0
            late 0 5; late 1 6; order @012 = 3; late 0 0 = 0; late 1 0 = 0           # the same once more
            late 0 5; late 1 6; order @210 = 3; late 0 0 = 0; late 1 0 = 0           # another one
            late 0 5; late 1 6; order @01 = 2; order @012 = 3; late 0 0 = 0; late 1 0 = 0
            late 0 5; late 1 6; order 0 = 0; order @012 = 3; late 0 0 = 0; late 1 0 = 0
            late 0 5; late 1 6; order @00 = BAD; order -1 = BAD; late 0 0 = 5; late 1 0 = 6
            """);
    }

    private static void asItGoes(Edges e) {
        e.says("T2", "AS IT GOES: the first HOUSE as by THE STARTS;", JUST_IN_TIME + """
            late 0 200; late 1 200; late 2 200; late 3 200
            begins 0 0 = 0; begins 0 1 = 4; begins 0 2 = 8; waited 0 = 0; cause 0 2 = NONE
            """);
        e.says("T2", "a REEL comes to each next HOUSE when it has ended at the one ahead, and WAY and LATE more;", JUST_IN_TIME + """
            late 0 5; begins 1 0 = 19; begins 2 0 = 33; begins 3 0 = 47
            late 3 7; begins 2 0 = 40; begins 3 0 = 54
            way 0 1 0; start 1 = 4; begins 1 0 = 9; begins 2 0 = 30
            """);
        // reel 0 has ended at 4 and comes at 14; the start is 16
        e.says("T2", "the first REEL begins there at START, or as it comes, if that is later;", REELS_4_6_2 + """
            order @12; start 1 = 16; begins 1 0 = 16
            late 0 1; begins 1 0 = 16; late 0 2; begins 1 0 = 16; late 0 3; begins 1 0 = 17
            """);
        // reel 1 comes at 20, as reel 0 has ended; reel 2 comes at 22, and reel 1 ends at 26
        e.says("T2", "each further one as the one ahead has ended there, or as it comes, if that is later.", REELS_4_6_2 + """
            order @12; begins 1 1 = 20; begins 1 2 = 26
            late 1 1; begins 1 1 = 21; begins 1 2 = 27; late 1 0
            late 2 4; begins 1 2 = 26; late 2 5; begins 1 2 = 27
            late 0 10; begins 1 0 = 24; begins 1 1 = 28; begins 1 2 = 34
            """);
        e.says("T2", "each further one as the one ahead has ended there, or as it comes, if that is later.", LONGEST
            + lateBy(200) + "; begins 1 0 = 319; begins 5 0 = 1595; begins 5 7 = 1735; waited 5 = 1000; waited 1 = 200;"
            + "where 7 1734 = 139; where 7 1735 = 5");
    }

    private static String lateBy(int minutes) {
        StringBuilder all = new StringBuilder();
        for (int ride = 0; ride < 40; ride++) {
            all.append("; late ").append(ride).append(' ').append(minutes);
        }
        return all.toString();
    }

    private static void waited(Edges e) {
        String gaps = "GAP of a REEL at a HOUSE: of the first one from START to its beginning, "
            + "of others from the end of the one ahead.";
        e.says("T2", gaps, JUST_IN_TIME + """
            waited 1 = 0
            late 0 1; waited 1 = 1; late 0 5; waited 1 = 5               # from 14 to 19
            late 1 5; waited 1 = 5; late 1 6; waited 1 = 6               # reel 1 comes at 23, at 24; the one ahead ends at 23
            late 1 12; late 2 15; waited 1 = 15                          # gaps 5, 7, 3
            """);
        e.says("T2", "WAITED: all GAPS of a HOUSE, each but the first less SLACK (0 at least).", JUST_IN_TIME + """
            late 0 5; late 1 12; late 2 15; waited 1 = 15
            slack 1 1 = 0; waited 1 = 13
            slack 1 2 = 1; waited 1 = 11
            slack 1 3 = 2; waited 1 = 9                                  # 5, 4, and 3 less 3
            slack 1 4 = 3; waited 1 = 8                                  # 5, 3, and no less than 0
            slack 1 6 = 4; waited 1 = 6
            slack 1 7 = 6; waited 1 = 5
            slack 1 9 = 7; waited 1 = 5                                  # the first is never less
            slack 0 9; slack 2 9; slack 1 0 = 9; waited 1 = 15           # slack of others does not count
            """);
    }

    private static void cause(Edges e) {
        e.says("T2", "THE CAUSE of a GAP above 0:", REELS_4_6_2 + """
            order @12
            late 0 2; begins 1 0 = 16; cause 1 0 = NONE; late 0 3; begins 1 0 = 17; cause 1 0 = 0
            late 2 5; cause 1 2 = NONE; late 2 6; cause 1 2 = 2          # reel 1 ends at 27
            """);
        e.says("T2", "its RIDE, if that is LATE;", JUST_IN_TIME + """
            late 0 100; late 3 1; late 4 2
            cause 1 0 = 0; cause 2 0 = 3; cause 2 1 = 4                  # late itself, if by a minute alone
            late 4 1; begins 2 1 = 133; cause 2 1 = NONE                 # late, but as the one ahead has ended
            late 3 0; cause 2 0 = 0
            """);
        e.says("T2", "else, of the REELS up to this one, this one first, at the HOUSE ahead:", JUST_IN_TIME + """
            late 0 5; late 1 30
            cause 1 0 = 0; cause 1 1 = 1
            cause 2 0 = 0; cause 2 1 = 1                                 # reel 1 is behind reel 0, and first for itself
            cause 3 0 = 0; cause 3 1 = 1
            """);
        // reels of 1, 1 and 20 minutes: starts 0, 30, 60; at house 1 the first two wait, and reel 2 comes late to house 2
        String shortAhead = THREE + "; reel 960; reel 960; reel 19200; order @012; late 0 20; ";
        e.says("T2", "the CAUSE of the first GAP that has one;", shortAhead + """
            begins 1 0 = 31; begins 1 1 = 32; begins 1 2 = 33; begins 2 2 = 63
            cause 1 1 = NONE; cause 1 2 = NONE; cause 2 0 = NONE; cause 2 2 = 0
            late 1 21; begins 1 1 = 33; begins 1 2 = 34; begins 2 2 = 64
            cause 2 2 = 1                                                # from this one down: reel 1 ahead of reel 0
            late 2 23; begins 1 2 = 55; cause 2 2 = 2; late 5 1; cause 2 2 = 5
            """);
        e.says("T2", "else none.", JUST_IN_TIME + """
            cause 1 0 = NONE; late 8 9 = 0; cause 3 2 = 8; cause 2 2 = NONE; cause 3 1 = NONE
            """);
    }

    private static void promiseOfOrder(Edges e) {
        e.says("P9", "THE ORDER is told: HOUSES as digits by 7, each 1 more than its number, the first one the highest;", SIX + """

            reel 960
            order 6 = 1; where 0 0 = 5; order 1 = 1; where 0 0 = 0
            order 22875 = 6; ride 0 1 = 0; ride 0 2 = 1; ride 4 1 = 4; ride 4 2 = 5   # 1 2 3 4 5 6 by 7
            order 114381 = 6; ride 0 1 = 5; ride 0 2 = 4; ride 4 1 = 1; ride 4 2 = 0  # 6 5 4 3 2 1 by 7
            order 15 = 2; ride 0 1 = 1; ride 0 2 = 0
            """);
        e.says("P9", "0: empty: how many.", SIX + """

            reel 960; order 0 = 0; count 2 = 0; order 3 = 1; order 9 = 2; order 66 = 3; count 2 = 3
            order 0 = 0; count 2 = 0; start 0 = BAD; where 0 0 = NONE
            """);
        e.says("P9", "BAD: a digit is no HOUSE,", """
            reel 960; order 1 = BAD; house 0 1; house 0 1; order @10
            order 3 = BAD; order 6 = BAD; order @02 = BAD; order @20 = BAD; order @012 = BAD; order @210 = BAD
            order -1 = BAD; order -9 = BAD; order MIN = BAD; order MAX = BAD; order NONE = BAD
            count 2 = 2; ride 0 1 = 1
            """);
        e.says("P9", "is 0 within,", SIX + """

            reel 960; order @01
            order 7 = BAD; order 14 = BAD; order 49 = BAD; order 51 = BAD; order 345 = BAD    # 10, 20, 100, 102, 1002
            order 117649 = BAD; order 823543 = BAD; order 1977326743 = BAD; count 2 = 2       # 1 and 6, 7, 11 times 0
            """);
        e.says("P9", "or twice;", SIX + """

            reel 960; order @01
            order 8 = BAD; order 16 = BAD; order @010 = BAD; order @100 = BAD; order @543215 = BAD; order @0123450 = BAD
            order 117648 = BAD; count 2 = 2
            """);
        e.says("P9", "NO: there is no REEL.", TWO + """

            order 0 = NO; order @0 = NO; order @10 = NO
            order 3 = BAD; order 7 = BAD; order 8 = BAD; order -1 = BAD
            reel 1; order 0 = 0; order @10 = 2
            """);
        e.only("P10", "START of the k-th HOUSE in THE ORDER (from 0). BAD: there is none.", JUST_IN_TIME, "start $", 0, 3);
        e.says("P10", "START of the k-th HOUSE in THE ORDER (from 0).", JUST_IN_TIME + """
            start 0 = 0; start 3 = 42; start 4 = BAD; order @3; start 0 = 0; start 1 = BAD; order 0; start 0 = BAD
            """);
    }

    private static void promisesOfRides(Edges e) {
        e.says("P11", "Of RIDE i: what 0 REEL, 1 from which HOUSE, 2 to which, 3 the minute at which it begins, 4 at which it ends",
            JUST_IN_TIME + "ride 8 0 = 2; ride 8 1 = 2; ride 8 2 = 3; ride 8 3 = 40; ride 8 4 = 50");
        e.says("P11", "(both by THE STARTS, none LATE).", JUST_IN_TIME + """
            late 0 200; late 3 200; late 8 200
            ride 0 3 = 4; ride 0 4 = 14; ride 3 3 = 18; ride 3 4 = 28; ride 8 3 = 40; ride 8 4 = 50
            """);
        e.only("P11", "BAD.", JUST_IN_TIME, "ride $ 0", 0, 8);
        e.only("P11", "BAD.", JUST_IN_TIME, "ride 8 $", 0, 4);
        e.says("P12", "THE FEWEST RIDERS.", TWO + """

            riders = 0; reel 960; riders = 0; order @0; riders = 0; order @01; riders = 1; late 0 200; riders = 1
            order 0; riders = 0
            """);
        e.says("P13", "A RIDE is LATE by so many minutes: by how many it was.", JUST_IN_TIME + """
            late 8 200 = 0; late 8 0 = 200; late 8 3 = 0; late 0 1 = 0; late 8 3 = 3
            """);
        e.only("P13", "BAD.", JUST_IN_TIME, "late $ 1", 0, 8);
        e.only("P13", "BAD.", JUST_IN_TIME, "late 8 $", 0, 200);
    }

    private static void promisesAsItGoes(Edges e) {
        e.says("P14", "AS IT GOES: at which minute a REEL begins at the k-th HOUSE.", JUST_IN_TIME + """
            begins 0 0 = 0; begins 3 2 = 50; late 8 9; begins 3 2 = 59
            """);
        e.only("P14", "BAD.", JUST_IN_TIME, "begins $ 0", 0, 3);
        e.only("P14", "BAD.", JUST_IN_TIME, "begins 3 $", 0, 2);
        e.says("P15", "WAITED at the k-th HOUSE.", JUST_IN_TIME + """
            late 8 9; waited 3 = 9; waited 2 = 0; waited 0 = 0; order @3210; waited 3 = 0
            """);
        e.only("P15", "BAD.", JUST_IN_TIME, "waited $", 0, 3);
        e.says("P16", "THE CAUSE of the GAP of a REEL at the k-th HOUSE, a RIDE", JUST_IN_TIME + """
            late 8 9; cause 3 2 = 8
            """);
        e.says("P16", "(also if SLACK takes all of it);", JUST_IN_TIME + """
            slack 1 9; late 1 9; waited 1 = 0; cause 1 1 = 1; late 1 1; waited 1 = 0; cause 1 1 = 1; late 1 0
            cause 1 1 = NONE
            """);
        e.says("P16", "NONE.", JUST_IN_TIME + """
            cause 0 0 = NONE; cause 3 2 = NONE; late 8 1; cause 3 2 = 8; cause 3 1 = NONE
            """);
        e.only("P16", "BAD.", JUST_IN_TIME, "cause $ 0", 0, 3);
        e.only("P16", "BAD.", JUST_IN_TIME, "cause 3 $", 0, 2);
    }

    private static void where(Edges e) {
        String twoReels = THREE + "; reel 3840; reel 5760; order @201; ";
        e.says("P17", "Where a REEL is at a minute (0 .. 9999) AS IT GOES: a HOUSE, or 100 and the RIDE on which it is.",
            twoReels + """
            where 1 0 = 2; where 1 9999 = 1; where 1 10 = 101; where 1 26 = 103; where 0 4 = 100
            where 1 -1 = BAD; where 1 10000 = BAD; where 1 MIN = BAD; where 1 MAX = BAD
            """);
        e.only("P17", "BAD;", twoReels, "where $ 0", 0, 1);
        e.only("P17", "BAD;", twoReels, "where 1 $", 0, 9999);
        e.says("P17", "NONE: THE ORDER is empty.", THREE + """

            where 0 0 = BAD; reel 960
            where 0 0 = NONE; where 0 9999 = NONE
            where 1 0 = BAD; where -1 0 = BAD; where 0 -1 = BAD; where 0 10000 = BAD
            order @0; where 0 0 = 0; order 0; where 0 0 = NONE
            """);
        e.says("P17", "(It is at the first HOUSE at first;", twoReels + """
            where 0 0 = 2; where 0 3 = 2; where 1 0 = 2; where 1 9 = 2
            """);
        e.says("P17", "on its RIDE from the minute at which it has ended till it comes;", twoReels + """
            where 1 9 = 2; where 1 10 = 101; where 1 19 = 101; where 1 20 = 0
            where 1 25 = 0; where 1 26 = 103; where 1 35 = 103; where 1 36 = 1
            late 1 200; where 1 219 = 101; where 1 220 = 0; where 1 225 = 0; where 1 226 = 103; where 1 236 = 1
            way 0 2 0; late 0 1; late 1 0
            where 0 3 = 2; where 0 4 = 100; where 0 5 = 0              # a minute late, no way
            late 0 0; where 0 3 = 2; where 0 4 = 0                     # on no ride at any minute
            """);
        e.says("P17", "at the HOUSE from that minute on.)", twoReels + """
            where 0 13 = 100; where 0 14 = 0; begins 1 0 = 16; where 0 16 = 0      # there ahead of its beginning
            where 1 36 = 1; where 1 50 = 1; where 1 9999 = 1                       # at the last one for good
            order @1; where 0 0 = 1; where 0 9999 = 1
            """);
    }
}
