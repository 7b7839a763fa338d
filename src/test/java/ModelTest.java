import java.lang.reflect.Method;
import java.lang.reflect.Modifier;
import java.util.Arrays;
import java.util.Comparator;
import java.util.Random;

/** Runs of calls by chance, each answer beside that of the document told once more; all 48 promises. */
public final class ModelTest {
    private static final int RUNS = 260;
    private static final int CALLS = 512;
    private static final String[] WORDS = {"days", "box", "room", "full", "sort", "comes", "hold", "refuse", "left", ";",
        "=", "X", "da"};

    private static Random random;

    public static void main(String[] args) throws Exception {
        Method[] face = SendTheBox.class.getDeclaredMethods();
        face = Arrays.stream(face).filter(m -> Modifier.isPublic(m.getModifiers()))
            .sorted(Comparator.comparing(Method::getName)).toArray(Method[]::new);
        Method[] told = new Method[face.length];
        for (int i = 0; i < face.length; i++) {
            told[i] = Told.class.getDeclaredMethod(face[i].getName(), face[i].getParameterTypes());
        }
        for (int run = 0; run < RUNS; run++) {
            random = new Random(run);
            oneRun(run, face, told);
        }
        Check.finish();
    }

    private static void oneRun(int run, Method[] face, Method[] told) throws Exception {
        SendTheBox x = new SendTheBox();
        Told y = new Told();
        int mostSorts = 1 + run % 3;
        int calls = 0;
        while (calls < CALLS) {
            if (random.nextInt(12) == 0 && y.houses.size() < 6) {
                for (char c : text(mostSorts).toCharArray()) {
                    y.feed(c, 1);
                    x.feed(c, 1);
                }
                calls += both(run, face, told, x, y, "house", new Object[0]);
                continue;
            }
            int i = random.nextInt(face.length);
            String name = face[i].getName();
            if (isRare(name) && random.nextInt(2 * mostSorts) > 0) {
                continue;
            }
            calls += both(run, face, told, x, y, name, arguments(name, y));
        }
        for (int what = 0; what <= 17; what++) {
            both(run, face, told, x, y, "status", new Object[] {what});
        }
    }

    /** Calls that clear away what stands, or that the model is long about. */
    private static boolean isRare(String name) {
        return name.equals("house") || name.equals("plain") || name.equals("image") || name.equals("back")
            || name.equals("row") || name.equals("wipe");
    }

    private static int both(int run, Method[] face, Method[] told, SendTheBox x, Told y, String name, Object[] with)
            throws Exception {
        for (int i = 0; i < face.length; i++) {
            if (face[i].getName().equals(name)) {
                long want = ((Number) told[i].invoke(y, with)).longValue();
                long got = ((Number) face[i].invoke(x, with)).longValue();
                Check.due("run " + run + " " + name + Arrays.toString(with), got, want);
            }
        }
        return 1;
    }

    /** A tape: mostly a good one. */
    private static String text(int mostSorts) {
        StringBuilder b = new StringBuilder();
        if (random.nextInt(3) > 0) {
            say(b, "days " + (1 + (random.nextBoolean() ? 2 : random.nextInt(6))));
        }
        if (random.nextInt(4) > 0) {
            say(b, "box " + number(random.nextBoolean() ? 20 : 99) + " room " + (1 + random.nextInt(random.nextBoolean() ? 9 : 40)));
        }
        if (random.nextBoolean()) {
            say(b, "full " + random.nextInt(4));
        }
        int sorts = 1 + random.nextInt(mostSorts);
        for (int i = 0; i < sorts; i++) {
            String sort = "sort room " + (1 + random.nextInt(9)) + " comes " + random.nextInt(5) + " hold " + random.nextInt(10);
            sort += random.nextBoolean() ? " refuse " + number(99) : "";
            sort += random.nextBoolean() ? " left " + number(random.nextBoolean() ? 9 : 99) : "";
            say(b, sort);
        }
        if (random.nextInt(5) == 0) {
            spoil(b);
        }
        return b.length() > 160 ? b.substring(0, 160) : b.toString();
    }

    private static void say(StringBuilder b, String statement) {
        b.append(b.length() == 0 ? "" : ";").append(statement);
    }

    private static void spoil(StringBuilder b) {
        int at = random.nextInt(b.length() + 1);
        switch (random.nextInt(5)) {
            case 0: b.setLength(at); break;
            case 1: b.insert(at, WORDS[random.nextInt(WORDS.length)]); break;
            case 2: b.insert(at, random.nextInt(200)); break;
            case 3: b.insert(at, (char) random.nextInt(256)); break;
            default: b.insert(at, ' '); break;
        }
    }

    private static int number(int most) {
        return random.nextInt(most + 1);
    }

    private static int near(int most) {
        if (random.nextInt(40) == 0) {
            return new int[] {-1, most, most + 1, Integer.MAX_VALUE, Integer.MIN_VALUE}[random.nextInt(5)];
        }
        return random.nextInt(Math.max(1, most));
    }

    /** Arguments that mostly may be. */
    private static Object[] arguments(String name, Told y) {
        int house = near(y.houses.size());
        Model.House h = y.at(house);
        int left = near(h == null ? 4 : h.days + 1);
        int state = near(h == null ? 125 : h.states());
        int sort = near(h == null ? 3 : h.sorts.size());
        // Mostly rules stand on the first shelves, rows on the last.
        boolean any = random.nextInt(10) == 0;
        int s = any ? near(8) : near(4);
        int r = any ? s : 7 - s;
        switch (name) {
            case "row": return new Object[] {r, near(5), random.nextBoolean() ? near(126) : near(4)};
            case "set": return new Object[] {r, near(random.nextBoolean() ? 3 : 30), value()};
            case "copy": return new Object[] {r, 4 + near(4), near(4), near(4), near(4)};
            case "element": return new Object[] {r, near(random.nextBoolean() ? 3 : 30)};
            case "rule": return rule(s);
            case "says": return new Object[] {s, near(6)};
            case "feed": return new Object[] {random.nextInt(), near(5)};
            case "houseOf": return new Object[] {house, near(5)};
            case "sortOf": return new Object[] {house, sort, near(5)};
            case "alter": return new Object[] {house, near(3), near(random.nextBoolean() ? 4 : 41)};
            case "change": return new Object[] {house, sort, near(4), near(random.nextBoolean() ? 5 : 100)};
            case "of": return new Object[] {near(125), near(3)};
            case "space": case "fill": return new Object[] {house, state};
            case "scale": case "promise": case "shape": case "odd": return new Object[] {house, left};
            case "cost": case "best": case "waits": case "once": return new Object[] {house, left, state};
            case "load": case "mean": case "lose": case "chance": return new Object[] {house, left, state, s};
            case "dear": return new Object[] {house, left, state, sort};
            case "reach": return new Object[] {house, left, s};
            case "held": return new Object[] {house, sort, s};
            case "judge": return new Object[] {house, state, r};
            case "join": case "saved": return new Object[] {house, near(y.houses.size())};
            case "boxes": case "begin": return new Object[] {house, s};
            case "weeks": return new Object[] {house, s, near(random.nextBoolean() ? 5 : 51)};
            case "step": return new Object[] {near(random.nextBoolean() ? 3 : 7)};
            case "week": return new Object[] {near(6)};
            case "status": return new Object[] {near(18)};
            case "seed": return new Object[] {random.nextInt()};
            case "plain": case "every": case "boy": return new Object[] {house};
            case "holds": return new Object[] {near(8)};
            default: return new Object[0];
        }
    }

    private static Object[] rule(int s) {
        int kind = near(6);
        int a = kind == 2 ? near(7) : kind == 3 ? 10 * near(60) + near(7) : kind == 5 ? 4 + near(4) : near(60);
        return new Object[] {s, kind, a};
    }

    private static long value() {
        return random.nextBoolean() ? random.nextInt(4) : random.nextLong() >> random.nextInt(64);
    }
}
