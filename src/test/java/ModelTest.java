import java.lang.reflect.Method;
import java.util.ArrayList;
import java.util.Arrays;
import java.util.Comparator;
import java.util.List;
import java.util.Random;

/** Long runs of drawn calls, wild ones among them: the class answers what the model answers, and never throws. */
public final class ModelTest {
    private static final int RUNS = 1200;
    private static final int CALLS = 512;
    private static final int[] WILD = {Integer.MIN_VALUE, Integer.MAX_VALUE, -1, ReelNight.NONE, ReelNight.BAD, 1 << 30, -7};
    private final Random random;
    private final Due due = new Due();
    private int most = 0;
    // how many of each answer, to see that the runs reach what they are to test
    private int planned, spent, none, caused, rode, manyRiders;

    private ModelTest(long seed) {
        random = new Random(seed);
    }

    public static void main(String[] args) throws Exception {
        ModelTest test = new ModelTest(20261117);
        List<Method> calls = new ArrayList<>(List.of(ReelNight.class.getDeclaredMethods()));
        calls.removeIf(m -> !java.lang.reflect.Modifier.isPublic(m.getModifiers()));
        calls.sort(Comparator.comparing(Method::getName));
        List<Method> nights = only(calls, "house way slack reel mend order ride riders late begins waited cause where");
        List<Method> weeks = only(calls, "house film worth bar pin plan planned");
        List<List<Method>> groups = List.of(calls, nights, weeks);
        for (int run = 0; run < RUNS && test.due.wrong() == 0; run++) {
            test.run(run, groups.get(run % groups.size()));
        }
        System.out.println(test.planned + " plans, " + test.spent + " spent, " + test.none + " none, " + test.caused
            + " causes, " + test.rode + " on a ride, " + test.manyRiders + " riders of many rides");
        test.due.holds("plans", test.planned > 5000);
        test.due.holds("spent plans", test.spent > 5000);
        test.due.holds("no plans", test.none > 500);
        test.due.holds("causes", test.caused > 1500);
        test.due.holds("on a ride", test.rode > 1000);
        test.due.holds("riders of many rides", test.manyRiders > 500);
        test.due.close();
    }

    private static List<Method> only(List<Method> calls, String names) {
        List<String> wanted = List.of(names.split(" "));
        return calls.stream().filter(m -> wanted.contains(m.getName())).toList();
    }

    private void run(int run, List<Method> calls) throws Exception {
        ReelNight x = new ReelNight();
        Model model = new Model();
        int houses = random.nextInt(7);
        int reels = random.nextInt(9);
        int films = random.nextInt(6);
        // lateness is best seen in some runs where many rides are late, in others where few are
        most = random.nextInt(3) == 0 ? 200 : 12;
        for (int i = 0; i < CALLS && due.wrong() == 0; i++) {
            boolean setUp = i < 40;
            List<Method> group = setUp && random.nextBoolean() ? only(calls, "house reel film") : calls;
            Method call = group.get(random.nextInt(group.size()));
            String name = call.getName();
            if (name.equals("house") && x.count(0) >= houses && random.nextInt(30) != 0
                || name.equals("reel") && (x.count(1) >= reels || !setUp) && random.nextInt(30) != 0
                || name.equals("order") && x.count(3) > 0 && random.nextInt(6) != 0
                || name.equals("film") && x.count(4) >= films && random.nextInt(30) != 0) {
                continue;
            }
            int[] args = new int[call.getParameterCount()];
            for (int a = 0; a < args.length; a++) {
                args[a] = random.nextInt(60) == 0 ? WILD[random.nextInt(WILD.length)] : draw(name, a, x);
            }
            Object[] boxed = Arrays.stream(args).boxed().toArray();
            int got = (Integer) call.invoke(x, boxed);
            due.is("run " + run + " call " + i + ": " + name + Arrays.toString(args), got, model.call(name, args));
            tally(name, got, x);
        }
    }

    private void tally(String name, int got, ReelNight x) {
        planned += name.equals("plan") && got > 0 ? 1 : 0;
        spent += name.equals("plan") && got == ReelNight.SPENT ? 1 : 0;
        none += name.equals("plan") && got == ReelNight.NO ? 1 : 0;
        caused += name.equals("cause") && got >= 0 ? 1 : 0;
        rode += name.equals("where") && got >= 100 ? 1 : 0;
        manyRiders += name.equals("riders") && got > 1 && got < x.count(3) && x.count(3) > 10 ? 1 : 0;
    }

    private int upTo(int most) {
        return random.nextInt(most + 1);
    }

    /** Around what is allowed, a step too far now and then. */
    private int around(int low, int high) {
        return random.nextInt(25) == 0 ? (random.nextBoolean() ? low - 1 : high + 1) : low + upTo(high - low);
    }

    private int aHouse(ReelNight x) {
        return around(0, Math.max(0, x.count(0) - 1));
    }

    private int aReel(ReelNight x) {
        return around(0, Math.max(0, x.count(1) - 1));
    }

    private int draw(String name, int at, ReelNight x) {
        switch (name + at) {
            case "house0": case "isOf1": return around(0, 3);
            case "house1": return around(1, random.nextBoolean() ? 999 : 20);
            case "isOf0": case "way0": case "way1": case "slack0": case "worth1": case "bar0": case "bar1":
            case "pin1": case "planned0": case "least0": case "share0": return aHouse(x);
            case "way2": return random.nextInt(4) == 0 ? around(0, 99) : upTo(6);
            case "slack1": return around(0, 9);
            case "reel0": return around(1, random.nextBoolean() ? 20000 : 4000);
            case "mend0": case "told0": case "begins1": case "cause1": case "where0": return aReel(x);
            case "mend1": return random.nextInt(20) == 0 ? around(1, 20000) : around(1, 300);
            case "told1": return around(0, 2);
            case "order0": return drawOrder(x);
            case "start0": case "begins0": case "waited0": case "cause0":
                return around(0, Math.max(0, x.count(2) - 1));
            case "ride0": case "late0": return around(0, Math.max(0, x.count(3) - 1));
            case "ride1": return around(0, 4);
            case "late1": return random.nextInt(4) == 0 ? around(0, 200) : upTo(most);
            case "where1": return random.nextInt(10) == 0 ? around(0, 9999) : upTo(250);
            default: return drawBooking(name, at, x);
        }
    }

    private int drawBooking(String name, int at, ReelNight x) {
        switch (name + at) {
            case "worth0": return around(0, Math.max(0, x.count(4) - 1));
            case "worth2": return random.nextBoolean() ? around(0, 999) : upTo(5);
            case "bar2": return around(0, 3);
            case "pin0": return random.nextInt(3) > 0 ? ReelNight.NONE : around(0, Math.max(0, x.count(4) - 1));
            case "pin2": case "planned1": case "shares0": case "checked0": case "plan0": return around(0, 3);
            case "plan1": return random.nextInt(20) == 0 ? around(1, 20000) : around(1, 600);
            case "rule0": return around(0, 2);
            case "rule1": return random.nextBoolean() ? around(0, 100) : random.nextInt();
            case "least1": return around(0, random.nextBoolean() ? 9999 : 100);
            case "share1": return around(0, 30);
            case "sheet0": case "mark0": case "copy0": case "copy2": return around(0, 1);
            case "sheet1": return around(0, 24);
            case "mark1": case "copy1": case "copy3": return around(0, 23);
            case "mark2": return random.nextInt(4) == 0 ? random.nextInt() : upTo(30);
            case "copy4": return around(0, random.nextBoolean() ? 24 : 4);
            case "count0": return around(0, 6);
            default: throw new IllegalArgumentException(name + at);
        }
    }

    private int drawOrder(ReelNight x) {
        if (random.nextInt(8) == 0) {
            return upTo(400000) - 1000;
        }
        List<Integer> houses = new ArrayList<>();
        for (int h = 0; h < x.count(0); h++) {
            houses.add(h);
        }
        java.util.Collections.shuffle(houses, random);
        int digits = 0;
        int many = random.nextInt(4) == 0 ? upTo(houses.size()) : houses.size();
        for (int k = 0; k < many; k++) {
            digits = digits * 7 + houses.get(k) + 1;
        }
        return digits;
    }
}
