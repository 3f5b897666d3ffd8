/** Each promise of the document by itself: ordinary inputs, the edges that it names, and wrong inputs. */
public final class PromiseTest {
    private static final int BAD = ReelNight.BAD, NO = ReelNight.NO, FULL = ReelNight.FULL, SPENT = ReelNight.SPENT;
    private static final int NONE = ReelNight.NONE, NOTHING = ReelNight.NOTHING, INDEX = ReelNight.INDEX;
    private static final int SIZE = ReelNight.SIZE;
    private static final int LEAST_INT = Integer.MIN_VALUE, MOST_INT = Integer.MAX_VALUE;
    private static final Due due = new Due();

    public static void main(String[] args) {
        newObject();
        house();
        isOf();
        way();
        slack();
        reel();
        mend();
        told();
        order();
        start();
        ride();
        riders();
        late();
        begins();
        waited();
        cause();
        where();
        film();
        worth();
        bar();
        pin();
        plan();
        planTies();
        planHolds();
        planBars();
        planTries();
        planned();
        rule();
        least();
        share();
        shares();
        checked();
        sheet();
        mark();
        copy();
        count();
        due.close();
    }

    private static ReelNight withHouses(int many) {
        ReelNight x = new ReelNight();
        for (int i = 0; i < many; i++) {
            x.house(0, 100);
        }
        return x;
    }

    private static ReelNight withReels(int houses, int... minutes) {
        ReelNight x = withHouses(houses);
        for (int m : minutes) {
            x.reel(960 * m);
        }
        return x;
    }

    private static int digits(int... houses) {
        int all = 0;
        for (int h : houses) {
            all = all * 7 + h + 1;
        }
        return all;
    }

    // 1
    private static void newObject() {
        ReelNight x = new ReelNight();
        for (int what = 0; what <= 6; what++) {
            due.is("1 count(" + what + ")", x.count(what), 0);
        }
        due.is("1 isOf", x.isOf(0, 0), BAD);
        due.is("1 told", x.told(0, 0), BAD);
        due.is("1 start", x.start(0), BAD);
        due.is("1 riders", x.riders(), 0);
        due.is("1 plan of no house", x.plan(3, 1), 0);
        due.is("1 checked", x.checked(0), 0);
        due.is("1 percent", x.rule(0, 40), 40);
        due.is("1 odds", x.rule(1, 20), 20);
        due.is("1 seed", x.rule(2, 1), 1);
        ReelNight y = new ReelNight();
        x.house(0, 1);
        due.is("1 another object is another", y.count(0), 0);
    }

    // 2
    private static void house() {
        ReelNight x = new ReelNight();
        due.is("2 kind -1", x.house(-1, 10), BAD);
        due.is("2 kind 4", x.house(4, 10), BAD);
        due.is("2 seats 0", x.house(0, 0), BAD);
        due.is("2 seats 1000", x.house(0, 1000), BAD);
        due.is("2 seats least", x.house(0, LEAST_INT), BAD);
        due.is("2 refused changes nothing", x.count(0), 0);
        int[] kinds = {0, 1, 2, 3, 3, 0};
        for (int i = 0; i < 6; i++) {
            due.is("2 house", x.house(kinds[i], i == 0 ? 1 : 999), i);
        }
        due.is("2 full", x.house(0, 10), FULL);
        due.is("2 BAD ahead of FULL", x.house(4, 10), BAD);
        due.is("2 BAD ahead of FULL", x.house(0, 0), BAD);
        due.is("2 six", x.count(0), 6);
    }

    // 3
    private static void isOf() {
        ReelNight x = new ReelNight();
        int[][] want = {{1, 0, 0, 0}, {1, 1, 0, 0}, {1, 0, 1, 0}, {1, 1, 0, 1}};
        for (int kind = 0; kind < 4; kind++) {
            x.house(kind, 10);
        }
        for (int house = 0; house < 4; house++) {
            for (int kind = 0; kind < 4; kind++) {
                due.is("3 isOf(" + house + ", " + kind + ")", x.isOf(house, kind), want[house][kind]);
            }
        }
        due.is("3", x.isOf(4, 0), BAD);
        due.is("3", x.isOf(-1, 0), BAD);
        due.is("3", x.isOf(0, -1), BAD);
        due.is("3", x.isOf(0, 4), BAD);
    }

    // 4
    private static void way() {
        ReelNight x = withHouses(3);
        due.is("4 at first", x.way(0, 1, 0), 10);
        due.is("4 both ways", x.way(1, 0, 99), 0);
        due.is("4", x.way(0, 1, 100), BAD);
        due.is("4", x.way(0, 1, -1), BAD);
        due.is("4", x.way(1, 1, 5), BAD);
        due.is("4", x.way(0, 3, 5), BAD);
        due.is("4", x.way(3, 0, 5), BAD);
        due.is("4", x.way(-1, 0, 5), BAD);
        due.is("4 refused changes nothing", x.way(0, 1, 7), 99);
        due.is("4 others stay", x.way(0, 2, 3), 10);
        x.house(0, 1);
        due.is("4 a later house", x.way(3, 2, 3), 10);
    }

    // 5
    private static void slack() {
        ReelNight x = withHouses(2);
        due.is("5 at first", x.slack(1, 9), 0);
        due.is("5", x.slack(1, 0), 9);
        due.is("5", x.slack(1, 10), BAD);
        due.is("5", x.slack(1, -1), BAD);
        due.is("5", x.slack(2, 1), BAD);
        due.is("5", x.slack(-1, 1), BAD);
        due.is("5 refused changes nothing", x.slack(1, 4), 0);
        due.is("5 others stay", x.slack(0, 4), 0);
    }

    // 6
    private static void reel() {
        ReelNight x = withHouses(2);
        due.is("6", x.reel(0), BAD);
        due.is("6", x.reel(-5), BAD);
        due.is("6", x.reel(20001), BAD);
        for (int i = 0; i < 7; i++) {
            due.is("6", x.reel(i == 0 ? 1 : 20000), i);
        }
        x.order(digits(0, 1));
        x.reel(0);
        due.is("6 refused keeps the order", x.count(2), 2);
        due.is("6", x.reel(20000), 7);
        due.is("6 the order is empty", x.count(2), 0);
        due.is("6 no ride", x.ride(0, 0), BAD);
        x.order(digits(0, 1));
        due.is("6 full", x.reel(1), FULL);
        due.is("6 BAD ahead of FULL", x.reel(0), BAD);
        due.is("6 full keeps the order", x.count(2), 2);
    }

    // 7
    private static void mend() {
        ReelNight x = withReels(2, 10, 5);
        x.order(digits(0, 1));
        x.late(0, 5);
        due.is("7", x.mend(0, 0), BAD);
        due.is("7", x.mend(0, 20001), BAD);
        due.is("7", x.mend(2, 1), BAD);
        due.is("7", x.mend(-1, 1), BAD);
        due.is("7", x.start(1), 20);
        due.is("7", x.mend(0, 1), 9599);
        due.is("7 the starts are others", x.start(1), 19);
        due.is("7 the order stays", x.count(2), 2);
        due.is("7 the late stays", x.late(0, 5), 5);
        due.is("7", x.mend(0, 9598), 1);
        due.is("7 one stays", x.mend(0, 1), 1);
        due.is("7 one stays", x.mend(0, 20000), 1);
        due.is("7 how often", x.told(0, 2), 4);
        due.is("7 others stay", x.told(1, 0), 4800);
        due.is("7 the longest is another", x.start(1), 15);
    }

    // 8
    private static void told() {
        ReelNight x = new ReelNight();
        int[] frames = {1, 959, 960, 1919, 1920, 20000};
        int[] minutes = {1, 1, 1, 1, 2, 20};
        for (int i = 0; i < 6; i++) {
            x.reel(frames[i]);
            due.is("8 frames", x.told(i, 0), frames[i]);
            due.is("8 minutes", x.told(i, 1), minutes[i]);
            due.is("8 mended", x.told(i, 2), 0);
        }
        x.mend(5, 800);
        x.mend(5, 1);
        due.is("8 frames", x.told(5, 0), 19199);
        due.is("8 minutes", x.told(5, 1), 19);
        due.is("8 mended", x.told(5, 2), 2);
        due.is("8", x.told(6, 0), BAD);
        due.is("8", x.told(-1, 0), BAD);
        due.is("8", x.told(0, 3), BAD);
        due.is("8", x.told(0, -1), BAD);
    }

    // 9
    private static void order() {
        ReelNight x = withHouses(6);
        due.is("9 no reel", x.order(0), NO);
        due.is("9 no reel", x.order(digits(0, 1)), NO);
        due.is("9 BAD ahead of NO", x.order(digits(0, 0)), BAD);
        due.is("9 BAD ahead of NO", x.order(-1), BAD);
        x.reel(960);
        due.is("9 one", x.order(digits(5)), 1);
        due.is("9 six", x.order(digits(5, 4, 3, 2, 1, 0)), 6);
        due.is("9 the first is the highest", x.ride(0, 1), 5);
        due.is("9", x.ride(4, 2), 0);
        due.is("9 0 at the end", x.order(7), BAD);
        due.is("9 0 within", x.order(49 + 2), BAD);
        due.is("9 twice", x.order(digits(1, 0, 1)), BAD);
        due.is("9 seven digits", x.order(117649 + digits(5, 4, 3, 2, 1, 0)), BAD);
        due.is("9 greatest", x.order(MOST_INT), BAD);
        due.is("9 least", x.order(LEAST_INT), BAD);
        due.is("9 below 0", x.order(-digits(0, 1)), BAD);
        due.is("9 refused changes nothing", x.count(2), 6);
        x.late(2, 50);
        x.order(-1);
        due.is("9 refused keeps the late", x.late(2, 50), 50);
        x.order(digits(5, 4, 3, 2, 1, 0));
        due.is("9 told again none is late", x.late(2, 0), 0);
        due.is("9 empty", x.order(0), 0);
        due.is("9 empty", x.count(2), 0);
        ReelNight y = withReels(2, 1);
        due.is("9 no such house", y.order(digits(2)), BAD);
        due.is("9 no such house", y.order(digits(2, 0)), BAD);
        due.is("9 no such house", y.order(digits(0, 2)), BAD);
        due.is("9", y.order(digits(1, 0)), 2);
    }

    // 10
    private static void start() {
        ReelNight x = withReels(3, 3, 12, 7);
        due.is("10 empty", x.start(0), BAD);
        x.order(digits(2, 0, 1));
        x.way(0, 2, 4);
        x.way(0, 1, 0);
        due.is("10", x.start(0), 0);
        due.is("10", x.start(1), 16);
        due.is("10", x.start(2), 28);
        due.is("10", x.start(3), BAD);
        due.is("10", x.start(-1), BAD);
        x.late(0, 100);
        due.is("10 the late do not count", x.start(1), 16);
    }

    // 11
    private static void ride() {
        ReelNight x = withReels(3, 3, 12, 7);
        due.is("11 none", x.ride(0, 0), BAD);
        x.order(digits(1));
        due.is("11 one house, none", x.ride(0, 0), BAD);
        x.order(digits(2, 0, 1));
        x.way(0, 2, 4);
        x.late(0, 100);
        int[][] want = {{0, 2, 0, 3, 7}, {1, 2, 0, 15, 19}, {2, 2, 0, 22, 26}, {0, 0, 1, 19, 29}, {1, 0, 1, 31, 41},
            {2, 0, 1, 38, 48}};
        for (int i = 0; i < want.length; i++) {
            for (int what = 0; what <= 4; what++) {
                due.is("11 ride(" + i + ", " + what + ")", x.ride(i, what), want[i][what]);
            }
        }
        due.is("11", x.ride(6, 0), BAD);
        due.is("11", x.ride(-1, 0), BAD);
        due.is("11", x.ride(0, 5), BAD);
        due.is("11", x.ride(0, -1), BAD);
    }

    // 12
    private static void riders() {
        ReelNight x = withReels(3, 10, 10, 10, 10);
        due.is("12 empty", x.riders(), 0);
        x.order(digits(0));
        due.is("12 one house", x.riders(), 0);
        x.order(digits(0, 1));
        x.way(0, 1, 5);
        due.is("12 back in time to the minute", x.riders(), 1);
        x.way(0, 1, 6);
        due.is("12 a minute too late", x.riders(), 2);
        x.way(0, 1, 99);
        due.is("12 each by itself", x.riders(), 4);
        x.way(0, 1, 5);
        x.late(0, 200);
        due.is("12 the late do not count", x.riders(), 1);
        ReelNight y = withReels(3, 1);
        y.way(0, 1, 0);
        y.way(1, 2, 0);
        y.order(digits(0, 1, 2));
        due.is("12 one rider goes along", y.riders(), 1);
        ReelNight z = withReels(3, 10, 1);
        z.way(0, 1, 0);
        z.way(1, 2, 0);
        z.way(0, 2, 20);
        z.order(digits(0, 1, 2));
        // the rides begin at 10, 11, 20, 21; from house 2 back to 1 it is 0 minutes
        due.is("12 no minutes at all", z.riders(), 1);
        z.way(1, 2, 1);
        // 10-10, 11-11, 20-21, 21-22 (houses 1 to 2): the two latter overlap
        due.is("12 two at once", z.riders(), 2);
        ridersByAnotherPairing();
    }

    /** Taking the first ride that fits for each would end with one rider more than the fewest. */
    private static void ridersByAnotherPairing() {
        ReelNight x = withReels(4, 1, 1, 1, 1);
        x.way(0, 1, 1);
        x.way(1, 2, 2);
        x.way(2, 3, 1);
        x.way(0, 2, 0);
        x.way(0, 3, 9);
        x.way(1, 3, 0);
        x.order(digits(0, 1, 2, 3));
        due.is("12 fewest", x.riders(), RidersByHand.fewest(x));
    }

    // 13
    private static void late() {
        ReelNight x = withReels(2, 5, 5);
        due.is("13 none", x.late(0, 0), BAD);
        x.order(digits(0, 1));
        due.is("13", x.late(1, 200), 0);
        due.is("13", x.late(1, 201), BAD);
        due.is("13", x.late(1, -1), BAD);
        due.is("13", x.late(2, 1), BAD);
        due.is("13", x.late(-1, 1), BAD);
        due.is("13", x.late(1, 0), 200);
        due.is("13 others stay", x.late(0, 3), 0);
        x.reel(960);
        due.is("13 the order is empty", x.late(0, 0), BAD);
        x.order(digits(0, 1));
        due.is("13 told anew", x.late(0, 0), 0);
    }

    // 14
    private static void begins() {
        ReelNight x = withReels(3, 4, 6, 2);
        due.is("14 empty", x.begins(0, 0), BAD);
        x.order(digits(1, 2, 0));
        int[][] byStarts = {{0, 4, 10}, {16, 20, 26}, {32, 36, 42}};
        for (int k = 0; k < 3; k++) {
            for (int reel = 0; reel < 3; reel++) {
                due.is("14 begins(" + k + ", " + reel + ")", x.begins(k, reel), byStarts[k][reel]);
            }
        }
        x.late(0, 2);
        due.is("14 late, but there in time", x.begins(1, 0), 16);
        x.late(0, 3);
        due.is("14 a minute behind", x.begins(1, 0), 17);
        due.is("14 all behind it", x.begins(1, 1), 21);
        due.is("14 the next house has time", x.begins(2, 0), 32);
        x.late(1, 20);
        due.is("14", x.begins(1, 1), 40);
        due.is("14", x.begins(1, 2), 46);
        due.is("14", x.begins(2, 1), 56);
        due.is("14", x.begins(2, 2), 62);
        x.way(1, 2, 0);
        due.is("14 ways count at once", x.begins(1, 0), 7);
        due.is("14", x.begins(3, 0), BAD);
        due.is("14", x.begins(-1, 0), BAD);
        due.is("14", x.begins(0, 3), BAD);
        due.is("14", x.begins(0, -1), BAD);
    }

    // 15
    private static void waited() {
        ReelNight x = withReels(2, 4, 4, 4);
        due.is("15 empty", x.waited(0), BAD);
        x.order(digits(1, 0));
        x.late(0, 5);
        x.late(1, 12);
        x.late(2, 15);
        // starts 0, 14; reels come at 19, 30, 37; begin at 19, 30, 37; gaps 5, 7, 3
        due.is("15", x.waited(1), 15);
        due.is("15 the first house", x.waited(0), 0);
        x.slack(1, 9);
        due.is("15 slack of the other house", x.waited(1), 15);
        x.slack(0, 3);
        due.is("15 not of the first", x.waited(1), 9);
        x.slack(0, 4);
        due.is("15 0 at least", x.waited(1), 8);
        due.is("15", x.waited(2), BAD);
        due.is("15", x.waited(-1), BAD);
    }

    // 16
    private static void cause() {
        ReelNight x = withReels(4, 4, 4, 4);
        due.is("16 empty", x.cause(0, 0), BAD);
        x.order(digits(0, 1, 2, 3));
        x.late(0, 5);
        due.is("16 its own ride", x.cause(1, 0), 0);
        due.is("16 no gap", x.cause(1, 1), NONE);
        due.is("16 by the house ahead", x.cause(2, 0), 0);
        due.is("16 by the house ahead of that", x.cause(3, 0), 0);
        due.is("16 the first house", x.cause(0, 0), NONE);
        x.late(1, 3);
        due.is("16 late without a gap", x.cause(1, 1), NONE);
        x.late(1, 7);
        due.is("16", x.cause(1, 1), 1);
        due.is("16 this one first", x.cause(2, 1), 1);
        x.late(1, 0);
        x.late(3, 1);
        due.is("16 late itself", x.cause(2, 0), 3);
        x.slack(1, 9);
        due.is("16 also if slack takes it", x.cause(1, 0), 0);
        causeByReelAhead();
        due.is("16", x.cause(4, 0), BAD);
        due.is("16", x.cause(-1, 0), BAD);
        due.is("16", x.cause(0, 3), BAD);
        due.is("16", x.cause(0, -1), BAD);
    }

    /** A short reel comes in time to wait behind a late one, and the long one behind it makes the gap further on. */
    private static void causeByReelAhead() {
        ReelNight x = withReels(3, 1, 1, 20);
        x.order(digits(0, 1, 2));
        // starts 0, 30, 60; at house 1 by the late ride 0 reels begin at 31, 32, 33: 53 + 10 is in time for 62 + 1
        x.late(0, 20);
        due.is("16 gap", x.begins(1, 0), 31);
        due.is("16 reel 2 has no gap", x.cause(1, 2), NONE);
        due.is("16 reel 2 comes at 63, begins", x.begins(2, 2), 63);
        due.is("16 by a reel ahead at the house ahead", x.cause(2, 2), 0);
        x.late(1, 21);
        // reel 1 comes at 33, the first ended at 32: gap 1, too; reel 2 begins at 34, comes at 64
        due.is("16 the nearest reel ahead", x.cause(2, 2), 1);
    }

    // 17
    private static void where() {
        ReelNight x = withReels(3, 4, 6);
        due.is("17 empty", x.where(0, 0), NONE);
        due.is("17 BAD ahead of NONE", x.where(2, 0), BAD);
        due.is("17 BAD ahead of NONE", x.where(0, 10000), BAD);
        due.is("17 BAD ahead of NONE", x.where(0, -1), BAD);
        due.is("17 BAD ahead of NONE", x.where(-1, 0), BAD);
        x.order(digits(2, 0, 1));
        due.is("17", x.where(1, 0), 2);
        due.is("17", x.where(1, 9), 2);
        due.is("17 ended", x.where(1, 10), 101);
        due.is("17", x.where(1, 19), 101);
        due.is("17 it comes", x.where(1, 20), 0);
        x.late(1, 15);
        due.is("17 late", x.where(1, 20), 101);
        due.is("17", x.where(1, 34), 101);
        due.is("17", x.where(1, 35), 0);
        due.is("17 ends there at 41", x.where(1, 40), 0);
        due.is("17", x.where(1, 41), 103);
        due.is("17", x.where(1, 50), 103);
        due.is("17 at the last", x.where(1, 51), 1);
        due.is("17 at the last", x.where(1, 9999), 1);
        x.way(0, 2, 0);
        x.late(0, 0);
        due.is("17 no way: at once", x.where(0, 3), 2);
        due.is("17 no way: at once", x.where(0, 4), 0);
        x.order(digits(1));
        due.is("17 one house", x.where(0, 9999), 1);
    }

    // 18
    private static void film() {
        ReelNight x = new ReelNight();
        for (int i = 0; i < 5; i++) {
            due.is("18", x.film(), i);
        }
        due.is("18", x.film(), FULL);
        due.is("18", x.count(4), 5);
    }

    // 19
    private static void worth() {
        ReelNight x = withHouses(2);
        due.is("19 no film", x.worth(0, 0, 1), BAD);
        x.film();
        x.film();
        due.is("19", x.worth(1, 0, 999), 0);
        due.is("19", x.worth(1, 0, 1000), BAD);
        due.is("19", x.worth(1, 0, -1), BAD);
        due.is("19", x.worth(2, 0, 1), BAD);
        due.is("19", x.worth(-1, 0, 1), BAD);
        due.is("19", x.worth(NONE, 0, 1), BAD);
        due.is("19", x.worth(1, 2, 1), BAD);
        due.is("19", x.worth(1, -1, 1), BAD);
        due.is("19", x.worth(1, 0, 0), 999);
        due.is("19 others stay", x.worth(0, 0, 5), 0);
        due.is("19 others stay", x.worth(0, 1, 5), 0);
    }

    // 20
    private static void bar() {
        ReelNight x = withHouses(3);
        due.is("20 at first", x.bar(0, 1, 3), 0);
        due.is("20 both ways", x.bar(1, 0, 2), 3);
        due.is("20", x.bar(0, 1, 4), BAD);
        due.is("20", x.bar(0, 1, -1), BAD);
        due.is("20 the same", x.bar(1, 1, 1), BAD);
        due.is("20", x.bar(0, 3, 1), BAD);
        due.is("20", x.bar(-1, 0, 1), BAD);
        due.is("20 refused changes nothing", x.bar(0, 1, 0), 2);
        due.is("20 others stay", x.bar(0, 2, 1), 0);
        due.is("20 no way", x.way(0, 1, 1), 10);
    }

    // 21
    private static void pin() {
        ReelNight x = withHouses(2);
        due.is("21 no film", x.pin(0, 0, 0), BAD);
        due.is("21 nothing", x.pin(NONE, 0, 0), NONE);
        x.film();
        x.film();
        due.is("21", x.pin(1, 1, 3), NONE);
        due.is("21", x.pin(0, 1, 3), 1);
        due.is("21", x.pin(NONE, 1, 3), 0);
        due.is("21", x.pin(1, 1, 3), NONE);
        due.is("21", x.pin(2, 1, 3), BAD);
        due.is("21", x.pin(-1, 1, 3), BAD);
        due.is("21", x.pin(0, 2, 3), BAD);
        due.is("21", x.pin(0, -1, 3), BAD);
        due.is("21", x.pin(0, 1, 4), BAD);
        due.is("21", x.pin(0, 1, -1), BAD);
        due.is("21", x.pin(NONE, 2, 0), BAD);
        due.is("21 refused changes nothing", x.pin(0, 1, 3), 1);
    }

    // 22
    private static void plan() {
        ReelNight x = withHouses(2);
        x.film();
        due.is("22", x.plan(-1, 1), BAD);
        due.is("22", x.plan(4, 1), BAD);
        due.is("22", x.plan(0, 0), BAD);
        due.is("22", x.plan(0, 20001), BAD);
        due.is("22", x.plan(0, -1), BAD);
        x.worth(0, 0, 7);
        x.worth(0, 1, 9);
        due.is("22", x.plan(0, 20000), 16);
        due.is("22 with a hold", x.plan(1, 20000), 16 + 3 + 4);
        due.is("22 two weeks at most", x.plan(3, 20000), 16 + 3 + 4);
        due.is("22 the first of several", x.planned(0, 0), 0);
        due.is("22", x.planned(0, 1), 0);
        due.is("22", x.planned(0, 2), NONE);
        x.plan(0, 20000);
        due.is("22 later weeks have nothing", x.planned(0, 1), NONE);
        x.pin(0, 0, 3);
        due.is("22 a pin in a later week", x.plan(2, 20000), 23);
        due.is("22 a pin takes its place", x.plan(3, 20000), 23);
        due.is("22", x.planned(0, 0), NONE);
        due.is("22", x.planned(0, 2), 0);
        due.is("22", x.planned(0, 3), 0);
        x.pin(0, 0, 1);
        due.is("22 pins that no plan keeps", x.plan(3, 20000), NO);
        due.is("22 refused keeps the plan", x.planned(0, 3), 0);
        due.is("22 SPENT ahead of NO", x.plan(3, 1), SPENT);
    }

    private static void planTies() {
        ReelNight x = withHouses(2);
        x.film();
        x.film();
        due.is("22 nothing is worth anything", x.plan(0, 20000), 0);
        due.is("22 the lesser film", x.planned(0, 0), 0);
        due.is("22 the lesser film", x.planned(1, 0), 0);
        x.bar(0, 1, 1);
        x.plan(0, 20000);
        due.is("22 the lesser film", x.planned(0, 0), 0);
        due.is("22 none is behind all", x.planned(1, 0), 1);
        x.pin(0, 1, 0);
        x.plan(0, 20000);
        due.is("22 the pinned ahead by number", x.planned(0, 0), 1);
        due.is("22", x.planned(1, 0), 0);
    }

    private static void planHolds() {
        ReelNight x = withHouses(1);
        x.film();
        x.worth(0, 0, 9);
        due.is("22 half, cut", x.plan(1, 20000), 13);
        x.pin(0, 0, 0);
        x.pin(0, 0, 2);
        due.is("22 the second right behind the first", x.plan(2, 20000), NO);
        x.pin(NONE, 0, 0);
        x.pin(0, 0, 1);
        due.is("22", x.plan(3, 20000), 13);
        due.is("22", x.planned(0, 0), NONE);
        x.pin(0, 0, 3);
        due.is("22 three weeks", x.plan(3, 20000), NO);
        x.film();
        x.pin(NONE, 0, 1);
        x.pin(NONE, 0, 2);
        x.pin(NONE, 0, 3);
        x.worth(1, 0, 8);
        due.is("22 two films", x.plan(3, 20000), 9 + 4 + 8 + 4);
        due.is("22", x.planned(0, 0), 0);
        due.is("22", x.planned(0, 1), 0);
        due.is("22", x.planned(0, 2), 1);
        due.is("22", x.planned(0, 3), 1);
    }

    private static void planBars() {
        for (int bar = 0; bar <= 3; bar++) {
            for (int week = 0; week <= 3; week++) {
                ReelNight x = withHouses(2);
                x.film();
                x.bar(1, 0, bar);
                x.pin(0, 0, 0);
                x.pin(0, 1, week);
                due.is("22 bar " + bar + " of " + week, x.plan(3, 20000), week >= bar ? 0 : NO);
                ReelNight y = withHouses(2);
                y.film();
                y.bar(1, 0, bar);
                y.pin(0, 1, 3 - week);
                y.pin(0, 0, 3);
                due.is("22 bar " + bar + " back " + week, y.plan(3, 20000), week >= bar ? 0 : NO);
            }
        }
        ReelNight x = withHouses(2);
        x.film();
        x.film();
        x.bar(0, 1, 3);
        x.pin(0, 0, 0);
        x.pin(1, 1, 0);
        due.is("22 another film has no bar", x.plan(0, 20000), 0);
    }

    private static void planTries() {
        ReelNight x = withHouses(2);
        x.film();
        x.film();
        // house 0: 2 tries; behind each of its 3 ways 2 more
        due.is("22 as many as there are", x.plan(0, 8), 0);
        due.is("22 one less", x.plan(0, 7), SPENT);
        x.bar(0, 1, 1);
        due.is("22 what may not be there is no try", x.plan(0, 6), 0);
        due.is("22", x.plan(0, 5), SPENT);
        x.pin(1, 1, 0);
        // film 0, then the pin; film 1, then nothing may be; none, then the pin
        due.is("22 a pin is a try", x.plan(0, 4), 0);
        due.is("22", x.plan(0, 3), SPENT);
        ReelNight y = withHouses(1);
        y.film();
        // weeks 0, 1, 2: 0; 01; 0-; -1; -12; --2 (0-2 and 012 may not be)
        due.is("22 holds are tries", y.plan(2, 5), 0);
        due.is("22", y.plan(2, 4), SPENT);
        ReelNight z = withHouses(6);
        due.is("22 no film, no try", z.plan(3, 1), 0);
    }

    // 23
    private static void planned() {
        ReelNight x = withHouses(1);
        due.is("23 none yet", x.planned(0, 3), NONE);
        x.film();
        x.plan(3, 20000);
        due.is("23", x.planned(0, 0), 0);
        x.film();
        x.worth(1, 0, 9);
        due.is("23 the latest plan", x.planned(0, 0), 0);
        x.house(0, 1);
        due.is("23 a later house", x.planned(1, 0), NONE);
        due.is("23", x.planned(2, 0), BAD);
        due.is("23", x.planned(-1, 0), BAD);
        due.is("23", x.planned(0, 4), BAD);
        due.is("23", x.planned(0, -1), BAD);
        x.plan(3, 1);
        due.is("23 a spent plan is none", x.planned(0, 2), NONE);
        x.plan(3, 20000);
        due.is("23 the first of several", x.planned(0, 0), 0);
        due.is("23", x.planned(0, 2), 1);
    }

    // 24
    private static void rule() {
        ReelNight x = new ReelNight();
        due.is("24", x.rule(0, 0), 40);
        due.is("24", x.rule(0, 100), 0);
        due.is("24", x.rule(0, 101), BAD);
        due.is("24", x.rule(0, -1), BAD);
        due.is("24", x.rule(0, 1), 100);
        due.is("24", x.rule(1, 100), 20);
        due.is("24", x.rule(1, 101), BAD);
        due.is("24", x.rule(1, -1), BAD);
        due.is("24", x.rule(1, 0), 100);
        due.is("24", x.rule(2, LEAST_INT), 1);
        due.is("24", x.rule(2, MOST_INT), LEAST_INT);
        due.is("24", x.rule(2, 0), MOST_INT);
        due.is("24", x.rule(3, 0), BAD);
        due.is("24", x.rule(-1, 0), BAD);
    }

    // 25
    private static void least() {
        ReelNight x = new ReelNight();
        for (int kind = 0; kind < 4; kind++) {
            x.house(kind, 100);
        }
        due.is("25", x.least(0, 1), NO);
        due.is("25", x.least(1, 9999), 0);
        due.is("25", x.least(2, 1), NO);
        due.is("25 a royal", x.least(3, 5), 0);
        due.is("25", x.least(1, 0), 9999);
        due.is("25", x.least(1, 10000), BAD);
        due.is("25", x.least(1, -1), BAD);
        due.is("25", x.least(4, 1), BAD);
        due.is("25", x.least(-1, 1), BAD);
        due.is("25 BAD ahead of NO", x.least(0, 10000), BAD);
    }

    // 26
    private static void share() {
        ReelNight x = new ReelNight();
        for (int kind = 0; kind < 4; kind++) {
            x.house(kind, 999);
        }
        int[] prices = {3, 5, 2, 8};
        for (int house = 0; house < 4; house++) {
            due.is("26", x.share(house, 999), 999 * prices[house] * 40 / 100);
            due.is("26", x.share(house, 1), prices[house] * 40 / 100);
            due.is("26", x.share(house, 0), 0);
            due.is("26", x.share(house, 1000), BAD);
            due.is("26", x.share(house, -1), BAD);
        }
        due.is("26", x.share(4, 0), BAD);
        due.is("26", x.share(-1, 0), BAD);
        x.least(1, 20);
        due.is("26 below its least", x.share(1, 9), 20);
        due.is("26 at its least", x.share(1, 10), 20);
        due.is("26 above its least", x.share(1, 11), 22);
        x.rule(0, 0);
        due.is("26 the least of no percent", x.share(1, 999), 20);
        due.is("26", x.share(0, 999), 0);
        x.rule(0, 100);
        due.is("26", x.share(3, 999), 7992);
    }

    // 27
    private static void shares() {
        ReelNight x = new ReelNight();
        x.house(0, 10);
        x.house(1, 20);
        due.is("27", x.shares(0), NOTHING);
        due.is("27 BAD ahead of NOTHING", x.shares(4), BAD);
        due.is("27 BAD ahead of NOTHING", x.shares(-1), BAD);
        x.sheet(1, 24);
        due.is("27 sheet 0 only", x.shares(0), NOTHING);
        x.rule(0, 100);
        x.sheet(0, 0);
        due.is("27 an empty sheet", x.shares(0), 0);
        x.least(1, 7);
        due.is("27 the least counts", x.shares(3), 7);
        x.sheet(0, 20);
        x.mark(0, 0, 10);
        x.mark(0, 1, 20);
        due.is("27", x.shares(0), 30 + 100);
        x.mark(0, 0, 11);
        x.mark(0, 1, -1);
        due.is("27 not 0 .. seats", x.shares(0), 7);
        x.mark(0, 18, 1);
        x.mark(0, 19, 2);
        due.is("27 week 3", x.shares(3), 3 + 10);
        x.sheet(0, 19);
        x.mark(0, 18, 1);
        due.is("27 not told", x.shares(3), 3 + 7);
        x.mark(0, 18, 65536 + 2);
        due.is("27 as a short", x.shares(3), 6 + 7);
    }

    // 28
    private static void checked() {
        ReelNight x = withHouses(6);
        due.is("28", x.checked(4), BAD);
        due.is("28", x.checked(-1), BAD);
        int[] seeds = {1, 0, -1, 77, MOST_INT, LEAST_INT};
        for (int seed : seeds) {
            x.rule(2, seed);
            for (int odds = 0; odds <= 100; odds += 10) {
                x.rule(1, odds);
                for (int week = 0; week < 4; week++) {
                    due.is("28 checked", x.checked(week), drawn(seed, odds, week, 6));
                }
            }
        }
        ReelNight y = withHouses(2);
        y.rule(1, 100);
        due.is("28 houses that are there", y.checked(3), 3);
        y.rule(1, 0);
        due.is("28 never", y.checked(3), 0);
    }

    private static int drawn(int seed, int odds, int week, int houses) {
        int bits = 0;
        for (int house = 0; house < houses; house++) {
            int v = seed;
            for (int i = 0; i < 6 * week + house + 1; i++) {
                v = v * 1664525 + 1013904223;
            }
            bits |= (v >>> 8) % 100 < odds ? 1 << house : 0;
        }
        return bits;
    }

    // 29
    private static void sheet() {
        ReelNight x = new ReelNight();
        due.is("29", x.sheet(2, 1), BAD);
        due.is("29", x.sheet(-1, 1), BAD);
        due.is("29", x.sheet(0, 25), BAD);
        due.is("29", x.sheet(0, -1), SIZE);
        due.is("29", x.sheet(0, LEAST_INT), SIZE);
        due.is("29 BAD ahead of SIZE", x.sheet(2, -1), BAD);
        due.is("29 refused changes nothing", x.count(6), 0);
        due.is("29", x.sheet(1, 24), 24);
        x.mark(1, 23, 9);
        due.is("29 SIZE changes nothing", x.sheet(1, -1), SIZE);
        due.is("29", x.mark(1, 23, 9), 9);
        due.is("29 all 0 again", x.sheet(1, 24), 24);
        due.is("29", x.mark(1, 23, 9), 0);
        due.is("29 none at all", x.sheet(1, 0), 0);
        due.is("29", x.mark(1, 0, 1), INDEX);
        x.sheet(1, 24);
        due.is("29 nothing comes back", x.mark(1, 23, 0), 0);
    }

    // 30
    private static void mark() {
        ReelNight x = new ReelNight();
        due.is("30", x.mark(0, 0, 0), NOTHING);
        due.is("30 NOTHING ahead of INDEX", x.mark(0, -1, 0), NOTHING);
        due.is("30", x.mark(2, 0, 0), BAD);
        due.is("30", x.mark(-1, 0, 0), BAD);
        x.sheet(0, 3);
        due.is("30", x.mark(0, 2, 32768), 0);
        due.is("30 as a short", x.mark(0, 2, -32769), -32768);
        due.is("30 as a short", x.mark(0, 2, MOST_INT), 32767);
        due.is("30 as a short", x.mark(0, 2, LEAST_INT), -1);
        due.is("30 as a short", x.mark(0, 2, 5), 0);
        due.is("30", x.mark(0, 3, 1), INDEX);
        due.is("30", x.mark(0, -1, 1), INDEX);
        due.is("30", x.mark(0, LEAST_INT, 1), INDEX);
        due.is("30", x.mark(0, 24, 1), INDEX);
        due.is("30 the other is missing", x.mark(1, 0, 1), NOTHING);
    }

    // 31
    private static void copy() {
        ReelNight x = new ReelNight();
        due.is("31", x.copy(0, 0, 1, 0, 0), NOTHING);
        due.is("31", x.copy(2, 0, 1, 0, 0), BAD);
        due.is("31", x.copy(0, 0, 2, 0, 0), BAD);
        due.is("31", x.copy(-1, 0, 1, 0, 0), BAD);
        due.is("31", x.copy(0, 0, -1, 0, 0), BAD);
        x.sheet(0, 6);
        due.is("31 NOTHING ahead of INDEX", x.copy(0, 9, 1, 0, 1), NOTHING);
        due.is("31 NOTHING ahead of INDEX", x.copy(1, 9, 0, 0, 1), NOTHING);
        for (int i = 0; i < 6; i++) {
            x.mark(0, i, i + 1);
        }
        due.is("31 the same, up", x.copy(0, 0, 0, 1, 5), 5);
        sheetIs(x, 0, 1, 1, 2, 3, 4, 5);
        due.is("31 the same, down", x.copy(0, 2, 0, 0, 4), 4);
        sheetIs(x, 0, 2, 3, 4, 5, 4, 5);
        x.sheet(1, 4);
        due.is("31 to the other", x.copy(0, 3, 1, 1, 3), 3);
        sheetIs(x, 1, 0, 5, 4, 5);
        due.is("31 none, right behind the last", x.copy(0, 6, 1, 4, 0), 0);
        due.is("31 none, too far", x.copy(0, 7, 1, 4, 0), INDEX);
        due.is("31 none, too far", x.copy(0, 6, 1, 5, 0), INDEX);
        due.is("31", x.copy(0, -1, 1, 0, 1), INDEX);
        due.is("31", x.copy(0, 0, 1, -1, 1), INDEX);
        due.is("31", x.copy(0, 0, 1, 0, 5), INDEX);
        due.is("31", x.copy(1, 0, 0, 0, 5), INDEX);
        due.is("31", x.copy(0, 0, 1, 0, -1), INDEX);
        due.is("31", x.copy(0, 1, 1, 1, MOST_INT), INDEX);
        due.is("31", x.copy(0, MOST_INT, 1, 1, MOST_INT), INDEX);
        due.is("31", x.copy(0, LEAST_INT, 1, 1, LEAST_INT), INDEX);
        sheetIs(x, 0, 2, 3, 4, 5, 4, 5);
        sheetIs(x, 1, 0, 5, 4, 5);
    }

    private static void sheetIs(ReelNight x, int s, int... want) {
        for (int i = 0; i < want.length; i++) {
            due.is("31 place " + i + " of sheet " + s, x.mark(s, i, want[i]), want[i]);
        }
    }

    // 32
    private static void count() {
        ReelNight x = withReels(3, 10, 2);
        x.order(digits(2, 0, 1));
        x.film();
        x.mend(0, 100);
        x.sheet(1, 0);
        int[] want = {3, 2, 3, 4, 1, 9500 + 1920, 1};
        for (int what = 0; what <= 6; what++) {
            due.is("32 count(" + what + ")", x.count(what), want[what]);
        }
        due.is("32", x.count(7), BAD);
        due.is("32", x.count(-1), BAD);
        x.sheet(0, 24);
        due.is("32 both sheets", x.count(6), 2);
        x.order(digits(1));
        due.is("32 no ride of one house", x.count(3), 0);
        ReelNight y = withReels(6, 1, 2, 3, 4, 5, 6, 7, 8);
        y.order(digits(5, 4, 3, 2, 1, 0));
        due.is("32 frames of eight reels", y.count(5), 36 * 960);
        due.is("32 rides at most", y.count(3), 40);
    }
}
