/** The sentences on receipts: T4, promises 24 to 32. */
final class ReceiptEdges {
    private static final String KINDS = "house 0 999; house 1 999; house 2 999; house 3 999; ";
    private static final String SIX = "house 0 9; house 0 9; house 0 9; house 0 9; house 0 9; house 0 9; ";
    /** Reckoned apart from Java: (v >>> 8) % 100 of the 24 draws (6 houses, 4 weeks) of some seeds. */
    private static final int[] SEEDS = {1, 0, -1, 77, Integer.MAX_VALUE, Integer.MIN_VALUE};
    private static final int[][] DRAWS = {
        {65, 33, 77, 78, 81, 89, 65, 95, 10, 68, 72, 23, 37, 16, 19, 64, 88, 60, 73, 4, 5, 93, 50, 30},
        {63, 77, 94, 47, 49, 98, 64, 15, 2, 43, 35, 97, 41, 82, 33, 84, 87, 42, 61, 8, 6, 8, 27, 45},
        {61, 20, 96, 15, 16, 7, 78, 35, 95, 17, 82, 55, 45, 49, 63, 4, 86, 23, 49, 12, 6, 23, 5, 61},
        {21, 28, 37, 29, 56, 88, 43, 81, 1, 48, 72, 59, 64, 37, 84, 87, 95, 82, 4, 30, 60, 95, 71, 63},
        {69, 28, 4, 7, 8, 99, 70, 27, 87, 9, 90, 63, 37, 41, 55, 12, 78, 31, 57, 4, 98, 15, 97, 69},
        {71, 85, 86, 39, 57, 90, 72, 7, 94, 35, 27, 89, 33, 74, 41, 76, 79, 50, 69, 0, 98, 0, 35, 53}};

    private ReceiptEdges() {
    }

    static void tell(Edges e) {
        shares(e);
        checkers(e);
        sheets(e);
        promisesOfRules(e);
        promiseOfShares(e);
        promisesOfSheets(e);
        promiseOfCopy(e);
        promiseOfCount(e);
        lastCall(e);
    }

    private static void shares(Edges e) {
        e.says("T4", "RECEIPTS of a HOUSE: heads 0 .. SEATS times its PRICE (HOUSE 3, PALACE 5, TENT 2, ROYAL 8);", KINDS + """
            rule 0 100
            share 0 999 = 2997; share 1 999 = 4995; share 2 999 = 1998; share 3 999 = 7992
            share 0 1 = 3; share 1 1 = 5; share 2 1 = 2; share 3 1 = 8
            share 0 0 = 0; share 1 0 = 0; share 2 0 = 0; share 3 0 = 0
            share 0 -1 = BAD; share 3 -1 = BAD; share 0 1000 = BAD; share 3 1000 = BAD
            house 0 1; share 4 1 = 3; share 4 2 = BAD
            """);
        e.becomes("T4", "the renter's SHARE: PERCENT (0 .. 100; 40 at first) of it, cut;", "film", "rule 0 $", 40, 0, 100);
        e.says("T4", "the renter's SHARE: PERCENT (0 .. 100; 40 at first) of it, cut;", KINDS + """
            share 0 999 = 1198; share 2 1 = 0; share 2 2 = 1; share 2 4 = 3     # 1198.8, 0.8, 1.6, 3.2
            rule 0 0; share 3 999 = 0; share 0 1 = 0
            rule 0 1; share 0 33 = 0; share 0 34 = 1; share 3 999 = 79; share 1 20 = 1; share 1 19 = 0
            rule 0 99; share 3 1 = 7; share 2 1 = 1; rule 0 100; share 3 1 = 8
            """);
        String least = "of PALACES (and ROYALS) never less than their LEAST (0 .. 9999; 0 at first).";
        e.becomes("T4", least, KINDS, "least 1 $", 0, 0, 9999);
        e.becomes("T4", least, KINDS, "least 3 $", 0, 0, 9999);
        e.says("T4", least, KINDS + """
            least 1 20; least 3 9999
            share 1 9 = 20; share 1 10 = 20; share 1 11 = 22; share 1 0 = 20      # 18, 20, 22 by percent
            share 3 999 = 9999; share 3 0 = 9999; share 0 0 = 0; share 2 0 = 0
            least 1 19 = 20; share 1 9 = 19; least 1 18 = 19; share 1 9 = 18; least 1 17 = 18; share 1 9 = 18
            rule 0 0; share 1 999 = 17
            """);
    }

    private static void checkers(Edges e) {
        e.names("T4", "CHECKERS: a HOUSE is checked in week w if (v >>> 8) % 100 is below ODDS");
        e.names("T4", "v being SEED (1 at first) that becomes v * 1664525 + 1013904223 (ints that wrap), "
            + "(6 * w and its number and 1) times.");
        for (int i = 0; i < SEEDS.length; i++) {
            for (int draw = 0; draw < 24; draw++) {
                Talk talk = new Talk().tell(SIX);
                talk.ask("rule", 2, SEEDS[i]);
                int week = draw / 6;
                int bit = 1 << draw % 6;
                String which = "T4 seed " + SEEDS[i] + ", draw " + draw;
                talk.ask("rule", 1, DRAWS[i][draw]);
                e.due.is(which + " is not below itself", talk.ask("checked", week) & bit, 0);
                talk.ask("rule", 1, DRAWS[i][draw] + 1);
                e.due.is(which + " is below one more", talk.ask("checked", week) & bit, bit);
            }
        }
        e.becomes("T4", "ODDS (0 .. 100; 20 at first),", "film", "rule 1 $", 20, 0, 100);
        // seed 18: the first draw is 0; seed 115: it is 99
        e.says("T4", "ODDS (0 .. 100; 20 at first),", """
            house 0 9; rule 2 18; rule 1 0; checked 0 = 0; rule 1 1; checked 0 = 1
            rule 2 115; rule 1 99; checked 0 = 0; rule 1 100; checked 0 = 1
            """);
        e.says("T4", "ODDS (0 .. 100; 20 at first),", SIX + """
            checked 0 = 0; checked 1 = 4; checked 2 = 6; checked 3 = 6
            """);
        e.says("T4", "v being SEED (1 at first)", SIX + "rule 1 66; checked 0 = 3; rule 2 1 = 1; checked 0 = 3");
    }

    private static void sheets(Edges e) {
        e.says("T4", "SHEETS 0, 1 are rows of shorts with 0 to 24 places", """
            sheet 0 0 = 0; mark 0 0 1 = INDEX; sheet 1 24 = 24; mark 1 23 1 = 0; mark 1 24 1 = INDEX
            sheet 0 25 = BAD; sheet 2 1 = BAD; sheet -1 1 = BAD
            mark 1 0 32767 = 0; mark 1 0 32768 = 32767; mark 1 0 -32769 = -32768; mark 1 0 65536 = 32767; mark 1 0 0 = 0
            """);
        e.says("T4", "(heads by weeks and HOUSES: place 6 * week and HOUSE),", SIX + """
            rule 0 100; sheet 0 24; mark 0 5 1; mark 0 6 2; mark 0 23 4
            shares 0 = 3; shares 1 = 6; shares 2 = 0; shares 3 = 12
            """);
        e.says("T4", "or MISSING (at first).", """
            count 6 = 0; mark 0 0 0 = NOTHING; mark 1 0 0 = NOTHING; shares 0 = NOTHING; sheet 0 0 = 0
            mark 0 0 0 = INDEX
            mark 1 0 0 = NOTHING; shares 0 = 0; count 6 = 1
            """);
        e.says("T4", "FINDINGS: NOTHING: a SHEET is MISSING;", """
            shares 3 = NOTHING; mark 1 23 1 = NOTHING; copy 0 0 1 0 0 = NOTHING; copy 0 0 0 0 0 = NOTHING
            sheet 0 1; copy 0 0 1 0 0 = NOTHING; copy 1 0 0 0 0 = NOTHING; copy 0 0 0 0 0 = 0
            """);
        e.says("T4", "INDEX: there is no such place;", """
            sheet 0 3; mark 0 2 0 = 0; mark 0 3 0 = INDEX; mark 0 -1 0 = INDEX; mark 0 23 0 = INDEX; mark 0 24 0 = INDEX
            mark 0 MIN 0 = INDEX; mark 0 MAX 0 = INDEX; sheet 0 24; mark 0 23 0 = 0; mark 0 24 0 = INDEX
            """);
        e.says("T4", "SIZE: a number of places is below 0.", """
            sheet 0 -1 = SIZE; sheet 1 MIN = SIZE; sheet 0 0 = 0; sheet 0 -1 = SIZE; count 6 = 1
            """);
    }

    private static void promisesOfRules(Edges e) {
        String rule = "PERCENT (which 0), ODDS (1), SEED (2: any) becomes v: what it was.";
        e.says("P24", rule, """
            rule 0 0 = 40; rule 1 100 = 20; rule 2 MIN = 1; rule 2 MAX = MIN; rule 2 0 = MAX; rule 2 -1 = 0
            rule 2 5 = -1
            rule 0 0 = 0; rule 1 100 = 100; rule 2 5 = 5
            """);
        e.only("P24", "BAD.", "film", "rule $ 50", 0, 2);
        e.only("P24", "BAD.", "film", "rule 0 $", 0, 100);
        e.only("P24", "BAD.", "film", "rule 1 $", 0, 100);
        e.says("P24", "BAD.", """
            rule 3 0 = BAD; rule -1 0 = BAD; rule MIN 0 = BAD; rule 0 101 = BAD; rule 1 -1 = BAD; rule 0 40 = 40
            rule 1 20 = 20; rule 2 1 = 1
            """);
        e.says("P25", "LEAST of a HOUSE becomes v: what it was.", KINDS + """
            least 1 9999 = 0; least 1 0 = 9999; least 3 7 = 0; least 1 1 = 0; least 3 7 = 7
            """);
        e.only("P25", "BAD;", "house 1 9; house 3 9", "least $ 1", 0, 1);
        e.only("P25", "BAD;", KINDS, "least 1 $", 0, 9999);
        e.says("P25", "BAD; NO: it is no PALACE.", KINDS + """
            least 0 0 = NO; least 0 9999 = NO; least 2 0 = NO; least 0 -1 = BAD; least 0 10000 = BAD
            least 2 10000 = BAD
            least 4 0 = BAD; least -1 0 = BAD; share 0 0 = 0; share 2 0 = 0
            """);
        e.says("P26", "The renter's SHARE of a HOUSE with so many heads.", KINDS + """
            share 0 100 = 120; share 3 100 = 320
            """);
        e.only("P26", "BAD: house,", KINDS, "share $ 0", 0, 3);
        e.only("P26", "heads 0 .. SEATS.", KINDS, "share 0 $", 0, 999);
        e.only("P26", "heads 0 .. SEATS.", "house 1 1", "share 0 $", 0, 1);
    }

    private static void promiseOfShares(Edges e) {
        e.says("P27", "All SHARES of a week by SHEET 0", KINDS + """
            rule 0 100; least 1 7; sheet 0 24; sheet 1 24; mark 1 0 9
            shares 0 = 7; mark 0 0 1; mark 0 1 2; mark 0 2 3; mark 0 3 4; mark 0 4 9; mark 0 6 1
            shares 0 = 51; shares 1 = 10                                # 3, 10, 6, 32; place 4 has no house
            house 2 9; shares 0 = 69
            """);
        e.says("P27", "(heads that it does not tell,", SIX + """
            rule 0 100; sheet 0 0; shares 0 = 0; shares 3 = 0
            sheet 0 23; mark 0 22 1; shares 3 = 3; sheet 0 24; mark 0 22 1; mark 0 23 1; shares 3 = 6
            sheet 0 19; mark 0 18 2; shares 3 = 6; shares 2 = 0; sheet 0 18; shares 3 = 0
            """);
        e.says("P27", "or that are not 0 .. SEATS, count as 0).", "house 0 9; house 1 9; " + """
            rule 0 100; least 1 4; sheet 0 2
            mark 0 0 9; shares 0 = 31; mark 0 0 10; shares 0 = 4; mark 0 0 -1; shares 0 = 4; mark 0 0 0; shares 0 = 4
            mark 0 1 9; shares 0 = 45; mark 0 1 10; shares 0 = 4; mark 0 1 -32768; shares 0 = 4
            mark 0 0 32767; shares 0 = 4; mark 0 0 65537; shares 0 = 7            # 65537 is 1 as a short
            """);
        e.only("P27", "BAD;", "sheet 0 0", "shares $", 0, 3);
        e.says("P27", "BAD; NOTHING.", SIX + """
            shares 0 = NOTHING; shares 3 = NOTHING; shares -1 = BAD; shares 4 = BAD
            sheet 1 24; shares 0 = NOTHING; sheet 0 25 = BAD; sheet 0 -1 = SIZE; shares 0 = NOTHING
            """);
        e.says("P28", "HOUSES that are checked in a week, as bits.", """
            rule 1 100; checked 0 = 0; house 0 9; checked 3 = 1; house 0 9; house 0 9; checked 0 = 7; house 0 9
            house 0 9; house 0 9
            checked 0 = 63; checked 3 = 63; rule 1 50; checked 0 = 2; checked 1 = 36; rule 1 0; checked 0 = 0
            """);
        e.only("P28", "BAD.", SIX, "checked $", 0, 3);
    }

    private static void promisesOfSheets(Edges e) {
        e.says("P29", "A SHEET has n places, all 0: n.", """
            sheet 0 24 = 24; mark 0 0 5; mark 0 23 6; sheet 0 24 = 24; mark 0 0 0 = 0; mark 0 23 7 = 0
            sheet 0 1 = 1; mark 0 0 0 = 0; mark 0 1 0 = INDEX; sheet 0 24 = 24; mark 0 23 0 = 0        # nothing comes back
            sheet 1 0 = 0; mark 1 0 0 = INDEX
            """);
        e.says("P29", "BAD: sheet,", """
            sheet -1 5 = BAD; sheet 2 5 = BAD; sheet MIN 5 = BAD; sheet MAX 5 = BAD; count 6 = 0; sheet 1 5 = 5
            """);
        e.says("P29", "n above 24;", """
            sheet 0 25 = BAD; sheet 0 MAX = BAD; count 6 = 0; sheet 0 24 = 24; mark 0 3 9; sheet 0 25 = BAD
            mark 0 3 9 = 9
            """);
        e.says("P29", "SIZE.", """
            sheet 0 -1 = SIZE; sheet 0 MIN = SIZE; count 6 = 0; sheet 2 -1 = BAD; sheet -1 -1 = BAD; sheet -1 MIN = BAD
            sheet 0 4; mark 0 3 9; sheet 0 -1 = SIZE; mark 0 3 9 = 9
            """);
        e.says("P30", "A place of a SHEET becomes v (as a short): what it was.", """
            sheet 0 2; mark 0 1 32767 = 0; mark 0 1 -32768 = 32767; mark 0 1 32768 = -32768; mark 0 1 -32769 = -32768
            mark 0 1 65535 = 32767; mark 0 1 65536 = -1; mark 0 1 MAX = 0; mark 0 1 MIN = -1; mark 0 1 70000 = 0
            mark 0 1 0 = 4464
            mark 0 0 1 = 0; sheet 1 2; mark 1 0 2 = 0; mark 0 0 1 = 1
            """);
        e.says("P30", "BAD: sheet;", """
            sheet 0 1; sheet 1 1; mark -1 0 0 = BAD; mark 2 0 0 = BAD; mark MIN 0 0 = BAD; mark MAX 0 0 = BAD
            mark 2 9 0 = BAD
            """);
        e.says("P30", "NOTHING;", """
            mark 0 0 0 = NOTHING; mark 0 -1 0 = NOTHING; mark 0 24 0 = NOTHING; mark 2 0 0 = BAD; sheet 0 1
            mark 1 0 0 = NOTHING
            """);
        e.says("P30", "INDEX.", """
            sheet 0 5; mark 0 0 7 = 0; mark 0 4 9 = 0; mark 0 5 1 = INDEX; mark 0 -1 1 = INDEX; mark 0 MIN 1 = INDEX
            mark 0 MAX 1 = INDEX; mark 0 4 0 = 9; mark 0 0 0 = 7
            """);
    }

    private static void promiseOfCopy(Edges e) {
        String row = "sheet 0 4; mark 0 0 1; mark 0 1 2; mark 0 2 3; mark 0 3 4; ";
        String words = "So many places of a SHEET come to another one (or the same), as they were: many.";
        e.says("P31", words, row + """
            sheet 1 6; copy 0 1 1 3 3 = 3; mark 1 2 0 = 0; mark 1 3 0 = 2; mark 1 4 0 = 3; mark 1 5 0 = 4; mark 0 1 0 = 2
            """);
        e.says("P31", words, row + """
            copy 0 0 0 1 3 = 3; mark 0 0 0 = 1; mark 0 1 0 = 1; mark 0 2 0 = 2; mark 0 3 0 = 3       # upwards
            """);
        e.says("P31", words, row + """
            copy 0 1 0 0 3 = 3; mark 0 0 0 = 2; mark 0 1 0 = 3; mark 0 2 0 = 4; mark 0 3 0 = 4       # downwards
            """);
        e.says("P31", words, row + "copy 0 0 0 0 4 = 4; mark 0 0 0 = 1; mark 0 3 0 = 4");
        e.says("P31", words, """
            sheet 0 24; sheet 1 24; mark 0 0 -32768; mark 0 23 32767
            copy 0 0 1 0 24 = 24; mark 1 0 0 = -32768; mark 1 23 0 = 32767
            """);
        // no place at all may be asked for right behind the last one, as there is none that is not there
        e.says("P31", words, row + """
            sheet 1 0; copy 0 0 1 0 0 = 0; copy 0 4 1 0 0 = 0; copy 1 0 0 4 0 = 0; copy 0 5 1 0 0 = INDEX; copy 0 0 1 1 0 = INDEX
            """);
        e.says("P31", "BAD;", row + """
            sheet 1 4; copy -1 0 0 0 1 = BAD; copy 2 0 0 0 1 = BAD; copy 0 0 -1 0 1 = BAD; copy 0 0 2 0 1 = BAD
            copy MIN 0 0 0 1 = BAD; copy 0 0 MAX 0 1 = BAD; copy 2 9 1 9 -1 = BAD; copy 0 9 2 9 9 = BAD
            """);
        e.says("P31", "NOTHING;", """
            copy 0 0 1 0 0 = NOTHING; copy 2 0 1 0 0 = BAD; copy 0 0 2 0 0 = BAD; copy 0 -1 1 99 -1 = NOTHING
            sheet 0 4; copy 0 0 1 0 1 = NOTHING; copy 1 0 0 0 1 = NOTHING; copy 0 9 1 0 1 = NOTHING
            copy 1 0 0 9 1 = NOTHING; copy 1 0 2 0 1 = BAD
            """);
        e.says("P31", "INDEX.", row + """
            sheet 1 2; copy 0 2 1 0 2 = 2; copy 0 3 1 0 2 = INDEX; copy 0 1 1 0 3 = INDEX; copy 0 0 1 1 2 = INDEX
            copy 1 0 0 3 2 = INDEX
            copy 1 0 0 0 3 = INDEX; copy 0 -1 1 0 1 = INDEX; copy 0 0 1 -1 1 = INDEX; copy 0 0 0 0 5 = INDEX
            copy 0 4 0 0 1 = INDEX
            copy 0 0 1 0 -1 = INDEX; copy 0 1 0 1 MIN = INDEX; copy 0 1 0 1 MAX = INDEX; copy 0 MAX 0 1 MAX = INDEX
            copy 0 MAX 0 0 1 = INDEX; copy 0 0 0 MAX 1 = INDEX; copy 0 MIN 0 0 1 = INDEX; copy 0 0 0 MIN MIN = INDEX
            mark 1 0 0 = 3; mark 1 1 0 = 4; mark 0 0 0 = 1; mark 0 3 0 = 4
            """);
        e.says("P31", "(From a SHEET, its place, to a SHEET, its place.)", row + """
            sheet 1 3; copy 0 3 1 2 1 = 1; mark 1 2 8 = 4; copy 1 2 0 0 1 = 1; mark 0 0 0 = 8; mark 0 3 0 = 4
            """);
    }

    private static void promiseOfCount(Edges e) {
        e.says("P32", "How many: 0 HOUSES, 1 REELS, 2 HOUSES in THE ORDER, 3 RIDES, 4 FILMS, 5 all FRAMES, "
            + "6 SHEETS that are not MISSING.", SIX + """
            reel 20000; reel 20000; reel 20000; reel 20000; reel 20000; reel 20000; reel 20000; reel 20000
            film; film; film; film; film; order @012345; sheet 0 0; sheet 1 24
            count 0 = 6; count 1 = 8; count 2 = 6; count 3 = 40; count 4 = 5; count 5 = 160000; count 6 = 2
            mend 0 20000; mend 7 1; count 5 = 140000; order @5; count 2 = 1; count 3 = 0; order 0; count 2 = 0
            count 3 = 0
            """);
        e.says("P32", "6 SHEETS that are not MISSING.", """
            sheet 1 0; count 6 = 1; sheet 1 0; count 6 = 1; sheet 0 0; count 6 = 2
            """);
        e.only("P32", "BAD.", SIX, "count $", 0, 6);
    }

    /** An object is used for at most 512 calls, and the last of them still counts. */
    private static void lastCall(Edges e) {
        Talk talk = new Talk().tell("reel 20000");
        for (int i = 0; i < 510; i++) {
            talk.ask("mend 0 1");
        }
        e.due.is("call 512", talk.ask("told 0 2"), 510);
        e.due.is("calls", talk.calls(), 512);
    }
}
