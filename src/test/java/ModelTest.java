import java.lang.reflect.Method;
import java.lang.reflect.Modifier;
import java.util.ArrayList;
import java.util.Arrays;
import java.util.Comparator;
import java.util.HashMap;
import java.util.List;
import java.util.Map;
import java.util.Random;

/** Many runs of calls by a fixed seed, each answered by AshGreetings and by Model alike. */
public final class ModelTest {
    private static final int RUNS = 1000;
    /** What later calls answer is free; the longest step (a town written) takes some seventy. */
    private static final int CALLS = 512, LONGEST_STEP = 80;

    /** For each call, the least and the most of its arguments that are drawn mostly. */
    private static final Map<String, int[]> RANGES = new HashMap<>();

    static {
        RANGES.put("row", new int[] {0, 5, 0, 22});
        RANGES.put("lay", new int[] {0, 5, 0, 20, -2, 65});
        RANGES.put("at", new int[] {0, 5, 0, 20});
        RANGES.put("tear", new int[] {0, 5});
        RANGES.put("copy", new int[] {0, 5, 0, 12, 0, 5, 0, 12, 0, 9});
        RANGES.put("mean", new int[] {0, 5});
        RANGES.put("text", new int[] {0, 3, 0, 60});
        RANGES.put("put", new int[] {0, 3, 0, 59, 30, 120});
        RANGES.put("fault", new int[] {0, 3});
        RANGES.put("town", new int[] {0, 3});
        RANGES.put("person", new int[] {0, 6, 0, 6});
        RANGES.put("deep", new int[] {0, 4});
        RANGES.put("mark", new int[] {0, 6, 1, 5});
        RANGES.put("fall", new int[] {0, 4, 1, 9});
        RANGES.put("wind", new int[] {0, 4});
        RANGES.put("go", new int[] {0, 6, 0, 4});
        RANGES.put("undo", new int[] {0, 40});
        RANGES.put("keep", new int[] {0, 2});
        RANGES.put("on", new int[] {0, 2});
        RANGES.put("later", new int[] {0, 6, 0, 60});
        RANGES.put("left", new int[] {0, 60});
        RANGES.put("ash", new int[] {1, 40});
        RANGES.put("best", new int[] {1, 40});
        RANGES.put("kinds", new int[] {0, 6, 0, 5});
        RANGES.put("highs", new int[] {0, 6, 0, 5});
        RANGES.put("test", new int[] {0, 6, 0, 5});
        RANGES.put("duel", new int[] {0, 3});
        RANGES.put("odds", new int[] {0, 63, 0, 20, 0, 12});
        RANGES.put("mid", new int[] {0, 20, 0, 12});
        RANGES.put("lots", new int[] {1, 20, 1, 2147483646});
        RANGES.put("count", new int[] {0, 11});
        RANGES.put("findings", new int[] {1, 5});
    }

    private final Random random;
    private final Check check;
    private final AshGreetings x = new AshGreetings();
    private final Model model = new Model();
    private final List<Method> face;
    private final String run;
    private int calls = 0;

    private ModelTest(int run, Check check, List<Method> face) {
        this.random = new Random(run);
        this.check = check;
        this.face = face;
        this.run = "run " + run + ", ";
    }

    public static void main(String[] args) throws ReflectiveOperationException {
        Check check = new Check("ModelTest");
        List<Method> face = new ArrayList<>();
        for (Method method : AshGreetings.class.getDeclaredMethods()) {
            if (Modifier.isPublic(method.getModifiers())) {
                face.add(method);
            }
        }
        // Reflection promises no order, and the runs must be the same each time.
        face.sort(Comparator.comparing(Method::getName));
        check.due("methods of the face", face.size(), 40);
        for (int run = 0; run < RUNS; run++) {
            new ModelTest(run, check, face).go();
        }
        check.end();
    }

    private void go() throws ReflectiveOperationException {
        for (int step = 0; calls < CALLS - LONGEST_STEP; step++) {
            int chance = random.nextInt(100);
            if (step == 3 || chance < 2) {
                writeTown();
            } else if (chance < 8) {
                recordTotals();
            } else {
                callBoth(face.get(random.nextInt(face.size())));
            }
        }
        same("digest()", x.digest(), model.digest());
        check.due(run + "calls of an object", calls <= CALLS ? 1 : 0, 1);
    }

    private void callBoth(Method method) throws ReflectiveOperationException {
        String name = method.getName();
        // Both would drop nearly all towns and deeds if these came as often as the others.
        boolean isRash = name.equals("undo") || name.equals("text") || name.equals("town");
        if (isRash && random.nextInt(4) != 0) {
            return;
        }
        int many = method.getParameterCount();
        Object[] values = new Object[many];
        for (int a = 0; a < many; a++) {
            int[] range = RANGES.get(name);
            values[a] = draw(range[2 * a], range[2 * a + 1]);
        }
        Method other = Model.class.getMethod(name, method.getParameterTypes());
        String call = name + Arrays.toString(values);
        same(call, ((Number) method.invoke(x, values)).longValue(),
            ((Number) other.invoke(model, values)).longValue());
        same(call + ", asked()", x.asked(), model.asked());
        same(call + ", upper()", x.upper(), model.upper());
        same(call + ", lower()", x.lower(), model.lower());
        same(call + ", finding()", x.finding(), model.finding());
        same(call + ", digest()", x.digest(), model.digest());
    }

    /** Now and then a number that is none, near or far. */
    private int draw(int least, int most) {
        int chance = random.nextInt(40);
        if (chance == 0) {
            return least - 1;
        }
        if (chance == 1) {
            return most == Integer.MAX_VALUE ? most : most + 1;
        }
        if (chance == 2) {
            return random.nextInt();
        }
        if (chance == 3) {
            return random.nextBoolean() ? Integer.MAX_VALUE : Integer.MIN_VALUE;
        }
        return (int) (least + Math.floor(random.nextDouble() * ((double) most - least + 1)));
    }

    private void writeTown() {
        StringBuilder said = new StringBuilder();
        blanks(said);
        for (int c = 0; c < 5; c++) {
            said.append(random.nextInt(10));
        }
        int people = 1 + random.nextInt(random.nextInt(5) == 0 ? 8 : 7);
        int streets = 1 + random.nextInt(4);
        for (int i = 0; i < people; i++) {
            blanks(said);
            said.append("ndshpb".charAt(random.nextInt(6))).append(random.nextInt(10));
            said.append(random.nextInt(10)).append(random.nextInt(10)).append(random.nextInt(streets));
        }
        blanks(said);
        if (random.nextInt(6) == 0) {
            said.setCharAt(random.nextInt(said.length()), "0 n5x9".charAt(random.nextInt(6)));
        }
        int t = random.nextInt(4);
        int n = Math.min(60, said.length() - (random.nextInt(10) == 0 ? 1 : 0));
        same("text", x.text(t, n), model.text(t, n));
        for (int i = 0; i < n; i++) {
            int sign = said.charAt(i);
            same("put", x.put(t, i, sign), model.put(t, i, sign));
        }
        same("fault of '" + said + "'", x.fault(t), model.fault(t));
        same("town of '" + said + "'", x.town(t), model.town(t));
    }

    private void blanks(StringBuilder said) {
        for (int n = random.nextInt(3); n > 0; n--) {
            said.append(' ');
        }
    }

    /** A ROW that some KIND and height really fit, but for a slip now and then. */
    private void recordTotals() {
        if (model.count(0) == 0) {
            return;
        }
        int r = random.nextInt(6);
        int i = random.nextInt(model.count(0));
        int n = 1 + random.nextInt(random.nextInt(2) == 0 ? 2 : 20);
        same("row", x.row(r, n), model.row(r, n));
        for (int d = 0; d < n; d++) {
            int total = model.left(d + 1);
            same("left", x.left(d + 1), total);
            int slip = random.nextInt(60) == 0 ? 1 : 0;
            same("lay", x.lay(r, d, total + slip), model.lay(r, d, total + slip));
        }
        same("kinds", x.kinds(i, r), model.kinds(i, r));
        same("highs", x.highs(i, r), model.highs(i, r));
        same("test", x.test(i, r), model.test(i, r));
        same("asked", x.asked(), model.asked());
    }

    /** Each call of the class is compared, so that what is compared is what was called. */
    private void same(String call, long got, long want) {
        calls++;
        check.due(run + call, got, want);
    }
}
