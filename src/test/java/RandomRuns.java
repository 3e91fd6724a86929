import java.lang.reflect.InvocationTargetException;
import java.lang.reflect.Method;
import java.util.ArrayList;
import java.util.HashMap;
import java.util.List;
import java.util.Map;
import java.util.Random;

/** Runs of drawn calls, each made on a PerfgaugeHouse and on a NaiveHouse, which have to answer the same. */
public final class RandomRuns {
    private static final int CALLS = 512;

    /**
     * A call and how often it is drawn. An argument is drawn from least-most, or is b a boolean, T and F just that,
     * p a PIECE that there is, c a COVER, d a DIE, u an ISSUE, h a HAND, i an ITEM, o the next HAND or one
     * that there is, s a set of KINDS, t a set of ITEMS, a a set of just one.
     */
    private static final String[] TELLING = {
        "flaw 0-23 0-9 0-7 0-7 x3",
        "piece 1-3 1-3 0-5 b x2",
        "seen p 0-3 s b x6",
        "tear 1-3 1-3 0-23 0-7 0-5 x4",
        "tear 1-2 1-2 0-10 0-7 0-5 x4",
        "edge p 0-3 9-10 180-205 x8",
        "edge p 0-3 5-20 50-400 x2",
        "road 0-5 0-5 0-9 x3",
        "road 0-2 0-2 1-3 x2",
        "rate 0-500 0-2 1-4 1-60 x4",
        "issue 1-40 0-400 300-999 x3",
        "die 0-5 0-300 300-999 x2",
        "die 0-1 0-200 500-999 x2",
        "cover 0-5 0-5 1-4 d 200-500 x3",
        "cover 0-1 0-2 1-4 d 200-500 x3",
        "stick c u 0-4 x6",
        "arrive c 200-600 b x2",
        "hand o 0-7 0-16 x4",
        "mark p 0-7 0-2 x6",
        "opine p 0-4 b x3",
        "pass 1-90 x1",
        "pass 1-400 x1",
        "truth p b x1",
        "item T c 0-60 x3",
        "item F p 0-60 x5",
        "bid 0-9 t 1-400 x3",
        "bid 0-4 a 1-600 x3",
        "bid 0-4 a 1-30 x1",
        "standard 0-7 0-99 0-99 0-99 x1",
        "shade p 0-99 0-99 0-99 0-50 x2",
    };

    private static final String[] ASKING = {
        "face 0-23 0-7 x1",
        "fits p 0-23 0-7 x3",
        "plating 0-5 0-4 x3",
        "ofPiece p 0-5 x4",
        "sheet 0-5 x2",
        "holes p x2",
        "way 0-5 0-5 x1",
        "due 0-999 0-2 1-4 x1",
        "ofCover c 0-7 x4",
        "franking c x2",
        "ofIssue u b x2",
        "weight p h x2",
        "likely p x2",
        "standing p 0-999 x2",
        "trust 0-4 x1",
        "ofSale 0-6 x3",
        "alone i b x3",
        "near p 0-2 x2",
        "value p x3",
        "frame 0-40 b x2",
        "isSound x1",
    };

    private static int wrong = 0;

    private final Random draw;
    private final Object house = new PerfgaugeHouse();
    private final Object naive = new NaiveHouse();
    private final List<String> told = new ArrayList<>();
    /** How many there are of what, by the sign of the argument. */
    private final Map<Character, Integer> there = new HashMap<>();

    private RandomRuns(long seed) {
        draw = new Random(seed);
    }

    public static void main(String[] args) {
        long runs = Long.getLong("runs", 40);
        long firstSeed = Long.getLong("seed", 1);
        for (long seed = firstSeed; seed < firstSeed + runs && wrong == 0; seed++) {
            new RandomRuns(seed).run(seed);
        }
        System.out.println(wrong == 0 ? runs + " runs answered the same" : "a run answered otherwise");
        System.exit(wrong == 0 ? 0 : 1);
    }

    private void run(long seed) {
        List<String> telling = spread(TELLING);
        List<String> asking = spread(ASKING);
        int percentWrong = draw.nextInt(3) == 0 ? 10 : 1;
        int untilPlate = draw.nextInt(3) == 0 ? 120 : 2000;
        int early = draw.nextInt(4) == 0 ? 20 : 0;
        for (int calls = 0; calls < CALLS && wrong == 0; calls++) {
            if (calls == early || draw.nextInt(untilPlate) == 0) {
                call("plate 2-6 2-4", calls == early ? 0 : percentWrong);
                if (draw.nextInt(4) != 0) call("engrave 0-99", 0);
            } else if (draw.nextInt(50) == 0) {
                compare("digest", new Object[0]);
            } else {
                List<String> from = draw.nextInt(10) < 6 ? telling : asking;
                call(from.get(draw.nextInt(from.size())), percentWrong);
            }
        }
        compare("digest", new Object[0]);
        if (wrong != 0) {
            System.out.println("seed " + seed + ":");
            for (String line : told) System.out.println("  " + line);
        }
    }

    /** Each run likes some calls more than others. */
    private List<String> spread(String[] kinds) {
        List<String> all = new ArrayList<>();
        for (String kind : kinds) {
            int at = kind.lastIndexOf(" x");
            int often = Integer.parseInt(kind.substring(at + 2)) * (1 + draw.nextInt(4));
            for (int i = 0; i < often; i++) all.add(kind.substring(0, at));
        }
        return all;
    }

    private void call(String kind, int percentWrong) {
        String[] parts = kind.split(" ");
        Object[] values = new Object[parts.length - 1];
        for (int i = 1; i < parts.length; i++) values[i - 1] = drawn(parts[i], percentWrong);
        compare(parts[0], values);
    }

    private Object drawn(String kind, int percentWrong) {
        if (kind.equals("b")) return draw.nextBoolean();
        if (kind.equals("T") || kind.equals("F")) return kind.equals("T");
        int dash = kind.indexOf('-');
        int least = dash < 0 ? 0 : Integer.parseInt(kind.substring(0, dash));
        int most = dash < 0 ? count(kind.charAt(0)) - 1 : Integer.parseInt(kind.substring(dash + 1));
        if (draw.nextInt(100) < percentWrong) {
            int[] odd = {least - 1, most + 1, -1, -2, Integer.MIN_VALUE, Integer.MAX_VALUE, 1000, 0};
            return odd[draw.nextInt(odd.length)];
        }
        if (kind.equals("s")) return drawnKinds();
        if (kind.equals("t")) return most < 0 ? 1 : draw.nextInt(1 << most + 1) & draw.nextInt(256);
        if (kind.equals("a")) return most < 0 ? 1 : 1 << draw.nextInt(most + 1);
        return most < least ? least : least + draw.nextInt(most - least + 1);
    }

    private int count(char sign) {
        char of = sign == 't' || sign == 'a' ? 'i' : sign == 'o' ? 'h' : sign;
        return there.getOrDefault(of, 0) + (sign == 'o' ? 1 : 0);
    }

    /** Half of them are some of a FACE, so that PIECES are SEEN as they can be. */
    private int drawnKinds() {
        if (draw.nextBoolean()) return 1 << draw.nextInt(10) & draw.nextInt(1024);
        Object face = answer(naive, "face", new Object[] {draw.nextInt(24), draw.nextInt(8)});
        return face instanceof Integer kinds ? kinds & (draw.nextBoolean() ? 1023 : draw.nextInt(1024)) : 0;
    }

    private void countThere(String name, Object answer) {
        if (!(answer instanceof Integer number)) return;
        switch (name) {
            case "plate" -> {
                for (char sign : "pci".toCharArray()) there.put(sign, 0);
            }
            case "piece", "tear" -> there.put('p', number + 1);
            case "cover" -> there.put('c', number + 1);
            case "die" -> there.put('d', number + 1);
            case "issue" -> there.put('u', number + 1);
            case "item" -> there.put('i', number + 1);
            case "hand" -> there.put('h', number);
            default -> { }
        }
    }

    private void compare(String name, Object[] values) {
        Object got = answer(house, name, values);
        Object due = answer(naive, name, values);
        StringBuilder line = new StringBuilder(name).append('(');
        for (int i = 0; i < values.length; i++) line.append(i > 0 ? ", " : "").append(values[i]);
        told.add(line.append(") answered ").append(got).toString());
        if (!got.equals(due)) {
            wrong++;
            told.add("  where " + due + " is due");
        }
        countThere(name, got);
        COUNTS.merge(name + (got instanceof String s && s.startsWith("throws.") ? " " + s : ""), 1, Integer::sum);
    }

    static final java.util.TreeMap<String, Integer> COUNTS = new java.util.TreeMap<>();

    private static Object answer(Object on, String name, Object[] values) {
        for (Method method : on.getClass().getDeclaredMethods()) {
            if (method.getName().equals(name) && java.lang.reflect.Modifier.isPublic(method.getModifiers())) {
                try {
                    return method.invoke(on, values);
                } catch (InvocationTargetException e) {
                    Throwable thrown = e.getCause();
                    boolean isOwn = thrown.getStackTrace()[0].getClassName().equals(on.getClass().getName());
                    return (isOwn ? "throws." : "the machine throws ") + thrown.getClass().getSimpleName();
                } catch (IllegalAccessException e) {
                    return e.toString();
                }
            }
        }
        throw new IllegalArgumentException(name);
    }
}
