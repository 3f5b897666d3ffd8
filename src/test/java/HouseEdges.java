/** The sentences on how calls answer, on houses and on reels: T0, T1, promises 1 to 8. */
final class HouseEdges {
    private static final String TWO = "house 0 9; house 0 9";
    private static final String SIX = TWO + ";" + TWO + ";" + TWO;

    private HouseEdges() {
    }

    static void tell(Edges e) {
        answers(e);
        houses(e);
        ways(e);
        reels(e);
        newObject(e);
        promisesOfHouses(e);
        promisesOfReels(e);
    }

    private static void answers(Edges e) {
        e.says("T0", "All numbers are whole; / cuts (nothing below 0 is divided).", """
            reel 1919 = 0; told 0 1 = 1             # 1919 / 960
            house 0 9 = 0
            share 0 1 = 1; share 0 4 = 4            # 120 / 100, 480 / 100
            film = 0; worth 0 0 7 = 0; plan 1 9 = 10  # 7, then 7 / 2
            sheet 0 1 = 1; mark 0 0 -3 = 0; shares 0 = 0
            """);
        e.says("T0", "A call that is refused answers one of BAD, NO, FULL, SPENT, or a FINDING,", """
            house 4 1 = BAD
            order 0 = NO
            house 0 1 = 0; film = 0; plan 3 1 = SPENT
            film; film; film; film = 4; film = FULL
            shares 0 = NOTHING
            sheet 0 -1 = SIZE
            sheet 0 1 = 1; mark 0 1 0 = INDEX
            """);
        e.says("T0", "of several the one that stands first with it,", SIX + """

            house 4 9 = BAD; house 0 9 = FULL        # a kind that is none, ahead of a seventh house
            order -1 = BAD; order 0 = NO             # no such digits, ahead of no reel
            least 0 10000 = BAD; least 0 1 = NO      # too much, ahead of no palace
            shares 4 = BAD; shares 3 = NOTHING
            sheet 2 -1 = BAD; sheet 1 -1 = SIZE
            mark 2 -1 0 = BAD; mark 1 -1 0 = NOTHING
            sheet 1 0 = 0; mark 1 -1 0 = INDEX
            copy 2 -1 0 0 1 = BAD; copy 1 -1 0 0 1 = NOTHING
            """);
        // each refused call of each kind: RefusalTest
        e.says("T0", "and changes nothing.", """
            house 1 9 = 0; house 1 0 = BAD; house 1 9 = 1
            least 0 9 = 0; least 0 -1 = BAD; least 0 0 = 9
            """);
        e.says("T0", "NONE: there is none.", """
            house 0 1 = 0; reel 1 = 0
            planned 0 0 = NONE; pin NONE 0 0 = NONE; where 0 0 = NONE
            order @0 = 1; cause 0 0 = NONE
            """);
    }

    private static void houses(Edges e) {
        e.says("T1", "HOUSES, 6 at most, numbered from 0:", """
            count 0 = 0
            house 0 1 = 0; house 0 1 = 1; house 0 1 = 2; house 0 1 = 3; house 0 1 = 4; house 0 1 = 5
            count 0 = 6
            house 0 1 = FULL
            count 0 = 6; isOf 0 0 = 1; isOf 5 0 = 1; isOf 6 0 = BAD; isOf -1 0 = BAD
            """);
        e.says("T1", "a KIND: 0 HOUSE, 1 PALACE, 2 TENT, 3 ROYAL", """
            house -1 1 = BAD; house 4 1 = BAD; house MIN 1 = BAD; house MAX 1 = BAD; count 0 = 0
            house 0 1 = 0; house 1 1 = 1; house 2 1 = 2; house 3 1 = 3
            isOf 1 1 = 1; isOf 2 2 = 1; isOf 3 3 = 1
            isOf 0 1 = 0; isOf 0 2 = 0; isOf 0 3 = 0; isOf 1 2 = 0; isOf 1 3 = 0; isOf 2 1 = 0; isOf 2 3 = 0
            """);
        e.says("T1", "(all are HOUSES; ROYALS are PALACES, too)", """
            house 0 1; house 1 1; house 2 1; house 3 1
            isOf 0 0 = 1; isOf 1 0 = 1; isOf 2 0 = 1; isOf 3 0 = 1
            isOf 3 1 = 1; isOf 1 3 = 0; isOf 3 2 = 0
            """);
        e.says("T1", "SEATS 1 .. 999", """
            house 0 0 = BAD; house 0 1000 = BAD; house 0 -1 = BAD; house 0 MIN = BAD; house 0 MAX = BAD; count 0 = 0
            house 0 1 = 0; share 0 1 = 1; share 0 2 = BAD
            house 0 999 = 1; share 1 999 = 1198; share 1 1000 = BAD
            """);
        e.becomes("T1", "a SLACK 0 .. 9 (minutes of slides between reels; 0 at first).", TWO, "slack 1 $", 0, 0, 9);
    }

    private static void ways(Edges e) {
        e.becomes("T1", "WAY between two of them: 0 .. 99 minutes,", TWO, "way 0 1 $", 10, 0, 99);
        e.says("T1", "both ways", "house 0 9; house 0 9; house 0 9" + """

            way 0 2 3 = 10; way 2 0 4 = 3; way 0 2 4 = 4
            way 0 1 7 = 10; way 1 2 8 = 10           # no other pair has changed
            """);
        e.says("T1", "(10 at first;", SIX + """

            way 0 5 10 = 10; way 5 4 10 = 10
            reel 960; order @05 = 2; start 1 = 11; ride 0 4 = 11
            """);
        // the rider ends ride 0 where ride 1 begins: 99 minutes for each ride, none in between
        e.says("T1", "0 to itself).", "house 0 9; house 0 9; house 0 9; reel 1" + """

            way 0 1 99; way 1 2 99; way 0 2 99; order @012
            ride 0 4 = 100; ride 1 3 = 101; riders = 1
            way 1 1 5 = BAD; riders = 1
            """);
    }

    private static void reels(Edges e) {
        e.says("T1", "REELS, 8 at most, numbered from 0:", """
            count 1 = 0; told 0 0 = BAD
            reel 9 = 0; reel 9 = 1; reel 9 = 2; reel 9 = 3; reel 9 = 4; reel 9 = 5; reel 9 = 6; reel 9 = 7
            count 1 = 8; reel 9 = FULL; count 1 = 8; count 5 = 72
            told 7 0 = 9; told 8 0 = BAD; told -1 0 = BAD
            """);
        e.says("T1", "FRAMES 1 .. 20000;", """
            reel 0 = BAD; reel -1 = BAD; reel 20001 = BAD; reel MIN = BAD; reel MAX = BAD; count 1 = 0
            reel 1 = 0; reel 20000 = 1; told 0 0 = 1; told 1 0 = 20000
            """);
        e.says("T1", "MINUTES are FRAMES / 960, 1 at least.", """
            reel 1 = 0; told 0 1 = 1; reel 959 = 1; told 1 1 = 1
            reel 960 = 2; told 2 1 = 1; reel 1919 = 3; told 3 1 = 1
            reel 1920 = 4; told 4 1 = 2; reel 19199 = 5; told 5 1 = 19
            reel 19200 = 6; told 6 1 = 20; reel 20000 = 7; told 7 1 = 20
            """);
        e.says("T1", "MENDED by so many frames a REEL is shorter (1 at least stays).", """
            reel 10 = 0; mend 0 1 = 9; mend 0 8 = 1      # just 1 is left
            reel 10 = 1; mend 1 9 = 1                    # all but 1
            reel 10 = 2; mend 2 10 = 1                   # as many as there are
            reel 10 = 3; mend 3 11 = 1; mend 3 20000 = 1; told 3 0 = 1; told 3 1 = 1
            reel 20000 = 4; mend 4 20000 = 1; reel 20000 = 5; mend 5 19999 = 1; reel 20000 = 6; mend 6 19998 = 2
            """);
    }

    private static void newObject(Edges e) {
        e.says("P1", "No HOUSES, REELS, FILMS.", """
            count 0 = 0; count 1 = 0; count 2 = 0; count 3 = 0; count 4 = 0; count 5 = 0; count 6 = 0
            isOf 0 0 = BAD; slack 0 0 = BAD; way 0 1 0 = BAD; least 0 0 = BAD; share 0 0 = BAD; bar 0 1 0 = BAD
            told 0 0 = BAD; mend 0 1 = BAD; where 0 0 = BAD
            start 0 = BAD; ride 0 0 = BAD; late 0 0 = BAD; begins 0 0 = BAD; waited 0 = BAD; cause 0 0 = BAD
            worth 0 0 0 = BAD; pin 0 0 0 = BAD; pin NONE 0 0 = BAD; planned 0 0 = BAD
            riders = 0; plan 3 1 = 0; checked 0 = 0; shares 0 = NOTHING
            house 0 1 = 0; reel 1 = 0; film = 0
            """);
    }

    private static void promisesOfHouses(Edges e) {
        e.says("P2", "One more HOUSE: its number.", "house 3 999 = 0; house 0 1 = 1; house 2 5 = 2; count 0 = 3");
        e.says("P2", "BAD; FULL.", SIX + """

            house 0 1 = FULL; house 3 999 = FULL
            house -1 1 = BAD; house 4 1 = BAD; house 0 0 = BAD; house 0 1000 = BAD; house 4 0 = BAD
            count 0 = 6
            """);
        e.says("P3", "Whether a HOUSE is of a KIND: 1, 0.", "house 2 1 = 0; isOf 0 2 = 1; isOf 0 1 = 0");
        e.only("P3", "BAD.", TWO, "isOf $ 0", 0, 1);
        e.only("P3", "BAD.", TWO, "isOf 1 $", 0, 3);
        e.says("P4", "WAY between two HOUSES becomes v: what it was.", TWO + """

            way 0 1 0 = 10; way 0 1 99 = 0; way 0 1 99 = 99; way 1 0 5 = 99
            """);
        e.only("P4", "BAD: no such HOUSES,", TWO + ";" + "house 0 9", "way 1 $ 5", 2, 2);
        e.only("P4", "BAD: no such HOUSES,", TWO, "way $ 1 5", 0, 0);
        e.only("P4", "BAD: no such HOUSES,", TWO, "way $ 0 5", 1, 1);
        e.says("P4", "the same,", TWO + """
            ; way 0 0 0 = BAD; way 1 1 0 = BAD; way 1 1 99 = BAD; way 2 2 5 = BAD; way -1 -1 5 = BAD
            """);
        e.says("P4", "v.", TWO + """
            ; way 0 1 -1 = BAD; way 0 1 100 = BAD; way 0 1 MIN = BAD; way 0 1 MAX = BAD; way 0 1 10 = 10
            """);
        e.says("P5", "SLACK of a HOUSE becomes v: what it was.", TWO + """

            slack 1 9 = 0; slack 1 0 = 9; slack 1 4 = 0; slack 0 1 = 0; slack 1 4 = 4
            """);
        e.only("P5", "BAD.", TWO, "slack $ 1", 0, 1);
        e.only("P5", "BAD.", TWO, "slack 0 $", 0, 9);
    }

    private static void promisesOfReels(Edges e) {
        e.says("P6", "One more REEL: its number.", "reel 5 = 0; reel 5 = 1; told 1 0 = 5; count 1 = 2");
        e.says("P6", "BAD; FULL.", "reel 1; reel 1; reel 1; reel 1; reel 1; reel 1; reel 1; reel 1 = 7" + """

            reel 1 = FULL; reel 20000 = FULL; reel 0 = BAD; reel 20001 = BAD; count 1 = 8
            """);
        e.says("P6", "(THE ORDER is empty then.)", TWO + """

            reel 960; order @01 = 2; late 0 5 = 0
            reel 0 = BAD; count 2 = 2; late 0 5 = 5        # a refused reel leaves it
            reel 960 = 1; count 2 = 0; count 3 = 0; start 0 = BAD; ride 0 0 = BAD; late 0 0 = BAD; where 0 0 = NONE
            begins 0 0 = BAD; waited 0 = BAD; cause 0 0 = BAD; riders = 0
            order @01 = 2; count 3 = 2; late 0 0 = 0       # nor is a ride late then
            reel 1; reel 1; reel 1; reel 1; reel 1; reel 1 = 7; order @01 = 2; reel 1 = FULL; count 2 = 2
            """);
        e.says("P7", "A REEL is MENDED, n (1 .. 20000) frames are lost: how many it has.", """
            reel 20000; reel 20000
            mend 0 1 = 19999; mend 0 19998 = 1; mend 0 1 = 1; mend 1 20000 = 1; count 5 = 2
            """);
        e.only("P7", "BAD.", "reel 9; reel 9", "mend $ 1", 0, 1);
        e.only("P7", "BAD.", "reel 9; reel 9", "mend 1 $", 1, 20000);
        e.says("P7", "(THE STARTS are others then.)", TWO + """

            reel 9600; reel 9599; order @01; way 0 1 0
            start 1 = 10; late 0 7 = 0
            mend 0 1 = 9599; start 1 = 9; ride 0 3 = 9; begins 1 0 = 16     # the order and the late ride stay
            mend 0 0 = BAD; start 1 = 9
            mend 0 20000 = 1; start 1 = 9                                   # the other is the greatest now
            mend 1 20000 = 1; start 1 = 1; count 2 = 2; late 0 7 = 7
            """);
        e.says("P8", "Of a REEL: what 0 FRAMES, 1 MINUTES, 2 how often it was MENDED.", """
            reel 1920 = 0; reel 5 = 1
            told 0 0 = 1920; told 0 1 = 2; told 0 2 = 0
            mend 0 1; mend 0 20001; mend 0 0; mend 0 1
            told 0 0 = 1918; told 0 1 = 1; told 0 2 = 2; told 1 2 = 0       # refused mends are none
            mend 1 5 = 1; mend 1 5 = 1; told 1 2 = 2; told 1 0 = 1
            """);
        e.only("P8", "BAD.", "reel 9; reel 9", "told $ 0", 0, 1);
        e.only("P8", "BAD.", "reel 9; reel 9", "told 1 $", 0, 2);
    }
}
