import java.io.IOException;
import java.lang.reflect.Array;
import java.lang.reflect.Constructor;
import java.lang.reflect.Field;
import java.lang.reflect.Method;
import java.lang.reflect.Modifier;
import java.nio.file.Files;
import java.nio.file.Path;
import java.util.ArrayList;
import java.util.Collections;
import java.util.IdentityHashMap;
import java.util.List;
import java.util.Set;
import java.util.TreeSet;
import java.util.regex.Matcher;
import java.util.regex.Pattern;

/** The rules of LANGUAGE.md that can be seen by a look at the class, at its text, and at the room that it takes. */
public final class LanguageTest {
    private static final String FACE = "bar(3) begins(2) cause(2) checked(1) copy(5) count(1) film(0) house(2) isOf(2) "
        + "late(2) least(2) mark(3) mend(2) order(1) pin(3) plan(2) planned(2) reel(1) ride(2) riders(0) rule(2) "
        + "share(2) shares(1) sheet(2) slack(2) start(1) told(2) waited(1) way(3) where(2) worth(3)";
    private static final String CONSTANTS = "BAD=-1000000001 FULL=-1000000003 INDEX=-1000000013 NO=-1000000002 "
        + "NONE=-1000000005 NOTHING=-1000000011 SIZE=-1000000014 SPENT=-1000000004";
    private static final Due due = new Due();

    public static void main(String[] args) throws Exception {
        face();
        classesInside();
        text();
        room();
        due.close();
    }

    private static void face() throws Exception {
        Class<?> c = ReelNight.class;
        due.is("1 public and final", c.getModifiers(), Modifier.PUBLIC | Modifier.FINAL);
        Set<String> calls = new TreeSet<>();
        Set<String> names = new TreeSet<>();
        for (Method m : c.getDeclaredMethods()) {
            if (Modifier.isPublic(m.getModifiers())) {
                calls.add(m.getName() + "(" + m.getParameterCount() + ")");
                names.add(m.getName());
                due.is("the answer of " + m.getName(), m.getReturnType() == int.class ? 1 : 0, 1);
            } else {
                due.holds("1 private: " + m.getName(), Modifier.isPrivate(m.getModifiers()));
            }
        }
        due.holds("the face is " + String.join(" ", calls), String.join(" ", calls).equals(FACE));
        for (Class<?> inside : c.getDeclaredClasses()) {
            for (Method m : inside.getDeclaredMethods()) {
                due.holds("1 a method inside bears a public name: " + m.getName(), !names.contains(m.getName()));
            }
        }
        Constructor<?>[] made = c.getDeclaredConstructors();
        due.holds("one public constructor", made.length == 1 && made[0].getParameterCount() == 0
            && Modifier.isPublic(made[0].getModifiers()));
        Set<String> constants = new TreeSet<>();
        for (Field f : c.getDeclaredFields()) {
            if (Modifier.isPublic(f.getModifiers())) {
                constants.add(f.getName() + "=" + f.getInt(null));
            } else {
                due.holds("1 private: " + f.getName(), Modifier.isPrivate(f.getModifiers()));
            }
        }
        due.holds("the constants are " + constants, String.join(" ", constants).equals(CONSTANTS));
    }

    private static void classesInside() {
        List<Class<?>> all = new ArrayList<>(List.of(ReelNight.class.getDeclaredClasses()));
        due.holds("11 some twelve classes", all.size() < 12);
        for (Class<?> c : all) {
            due.holds("2 static: " + c, Modifier.isStatic(c.getModifiers()));
            due.holds("1 not public: " + c, !Modifier.isPublic(c.getModifiers()));
            int own = 0;
            for (Field f : c.getDeclaredFields()) {
                boolean isStatic = Modifier.isStatic(f.getModifiers());
                own += isStatic ? 0 : 1;
                due.holds("5 static fields are final: " + f, !isStatic || Modifier.isFinal(f.getModifiers()));
            }
            due.holds("11 some twenty fields: " + c, own <= 20);
            for (Method m : c.getDeclaredMethods()) {
                due.holds("11 seven parameters: " + m, m.getParameterCount() <= 7);
            }
        }
    }

    private static void text() throws IOException {
        String whole = Files.readString(Path.of("src/main/java/ReelNight.java"));
        String code = whole.replaceAll("(?s)/\\*.*?\\*/", " ").replaceAll("//[^\n]*", " ");
        String[] never = {"\\bthrow\\b", "\\bthrows\\b", "\\btry\\b", "\\bcatch\\b", "\\bsynchronized\\b", "\\bassert\\b",
            "\\bpackage\\b", "->", "::", "Exact\\b", "\\bdouble\\b", "\\bfloat\\b", "\\bnative\\b", "\\bThread\\b",
            "\\bRandom\\b", "\\brandom\\b", "currentTime", "nanoTime", "System\\.(?!arraycopy)", "@", "\"",
            "\\bObject\\b", "\\bgetClass\\b", "\\bhashCode\\b", "\\btoString\\b", "\\bimport (?!java\\.util\\.Arrays;)",
            "Arrays\\.(?!fill\\b|copyOf\\b|copyOfRange\\b)", "Math\\.(?!max\\b|min\\b|abs\\b)", "while \\(true\\)",
            "for \\(;;\\)"};
        for (String word : never) {
            due.holds("never " + word, !Pattern.compile(word).matcher(code).find());
        }
        due.holds("one import at most", code.split("\\bimport\\b", -1).length <= 2);
        due.holds("signs 1 to 127", whole.chars().allMatch(sign -> sign >= 1 && sign <= 127));
        // rows are made by constructors alone: no call makes a thing
        Matcher made = Pattern.compile("(?m)^.*\\bnew\\b.*$").matcher(code);
        while (made.find()) {
            String line = made.group().trim();
            due.holds("made by a constructor: " + line,
                line.startsWith("private final ") || line.matches("(this\\.)?\\w+ = new \\w+\\(.*\\);"));
        }
        methodLengths(code);
    }

    private static void methodLengths(String code) {
        int depth = 0;
        int since = 0;
        String[] lines = code.split("\n", -1);
        for (int i = 0; i < lines.length; i++) {
            if (lines[i].matches("\\s+[\\w\\[\\] ]+\\([^;]*\\) \\{") && !lines[i].matches("\\s+(if|for|while|switch|else).*")) {
                since = i;
                depth = lines[i].indexOf(lines[i].trim());
            }
            if (lines[i].matches("\\s+}") && lines[i].indexOf('}') == depth) {
                due.holds("11 a method of " + (i - since) + " lines at " + since, i - since <= 60);
            }
        }
    }

    /** 600 objects of the class in one run still take a small part of the room. */
    private static void room() throws Exception {
        ReelNight x = new ReelNight();
        long[] before = roomOf(x);
        x.house(0, 10);
        x.house(1, 10);
        x.reel(960);
        x.film();
        x.order(9);
        x.riders();
        x.waited(1);
        x.plan(3, 20000);
        x.sheet(0, 24);
        long[] after = roomOf(x);
        System.out.println("an object takes " + before[0] + " objects, " + before[1] + " fields and elements");
        due.is("the calls keep no more objects", after[0], before[0]);
        due.is("the calls keep no more elements", after[1], before[1]);
        due.holds("600 times its objects", before[0] * 600 < 60_000);
        due.holds("600 times its fields and elements", before[1] * 600 < 1_000_000);
    }

    private static long[] roomOf(Object first) throws Exception {
        Set<Object> seen = Collections.newSetFromMap(new IdentityHashMap<>());
        List<Object> queue = new ArrayList<>(List.of(first));
        seen.add(first);
        long cells = 0;
        for (int at = 0; at < queue.size(); at++) {
            Object o = queue.get(at);
            List<Object> parts = new ArrayList<>();
            if (o.getClass().isArray()) {
                cells += Array.getLength(o);
                for (int i = 0; !o.getClass().getComponentType().isPrimitive() && i < Array.getLength(o); i++) {
                    parts.add(Array.get(o, i));
                }
            } else {
                for (Field f : o.getClass().getDeclaredFields()) {
                    if (Modifier.isStatic(f.getModifiers())) {
                        continue;
                    }
                    cells++;
                    f.setAccessible(true);
                    if (!f.getType().isPrimitive()) {
                        parts.add(f.get(o));
                    }
                }
            }
            for (Object part : parts) {
                if (part != null && seen.add(part)) {
                    queue.add(part);
                }
            }
        }
        return new long[] {queue.size(), cells};
    }
}
