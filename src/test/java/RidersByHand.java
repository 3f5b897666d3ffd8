/** The fewest riders by giving each ride, as they begin, to each rider that can do it or to a new one. */
final class RidersByHand {
    private final int many;
    private final int[][] rides;
    private final int[][] ways;
    private int fewest;

    private RidersByHand(int[][] rides, int[][] ways) {
        this.many = rides.length;
        this.rides = rides;
        this.ways = ways;
        this.fewest = many;
    }

    /** A ride: from, to, begin, end, in the order of their numbers. */
    static int fewest(int[][] rides, int[][] ways) {
        int[][] sorted = rides.clone();
        // the sort is stable: of the same minute the lesser number stays ahead
        java.util.Arrays.sort(sorted, (a, b) -> Integer.compare(a[2], b[2]));
        RidersByHand r = new RidersByHand(sorted, ways);
        r.give(0, new int[sorted.length], 0);
        return r.fewest;
    }

    static int fewest(ReelNight x) {
        int[][] rides = new int[x.count(3)][];
        for (int i = 0; i < rides.length; i++) {
            rides[i] = new int[] {x.ride(i, 1), x.ride(i, 2), x.ride(i, 3), x.ride(i, 4)};
        }
        int houses = x.count(0);
        int[][] ways = new int[houses][houses];
        for (int a = 0; a < houses; a++) {
            for (int b = 0; b < houses; b++) {
                if (a != b) {
                    ways[a][b] = x.way(a, b, 0);
                    x.way(a, b, ways[a][b]);
                }
            }
        }
        return fewest(rides, ways);
    }

    private void give(int ride, int[] lastOf, int riders) {
        if (riders >= fewest) {
            return;
        }
        if (ride == many) {
            fewest = riders;
            return;
        }
        int[] b = rides[ride];
        for (int r = 0; r < riders; r++) {
            int[] a = rides[lastOf[r]];
            if (a[3] + ways[a[1]][b[0]] <= b[2]) {
                int was = lastOf[r];
                lastOf[r] = ride;
                give(ride + 1, lastOf, riders);
                lastOf[r] = was;
            }
        }
        lastOf[riders] = ride;
        give(ride + 1, lastOf, riders + 1);
    }
}
