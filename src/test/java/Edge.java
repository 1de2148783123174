import java.lang.reflect.InvocationTargetException;
import java.lang.reflect.Method;
import java.util.ArrayList;
import java.util.Arrays;
import java.util.List;

/**
 * A boundary case: calls that lead up to it, and then one call with what is due. Each case has an
 * object of its own, so that none leans on what another one left, nor comes near 512 calls.
 */
final class Edge {
    /** A call by its name, as no two of the face bear the same. */
    private record Step(String name, int[] values, boolean mayBeRefused) {
        long on(AshGreetings x) {
            for (Method method : AshGreetings.class.getMethods()) {
                if (method.getName().equals(name) && method.getDeclaringClass() == AshGreetings.class) {
                    return answer(method, x);
                }
            }
            throw new IllegalArgumentException("no call " + name);
        }

        private long answer(Method method, AshGreetings x) {
            Object[] boxed = Arrays.stream(values).boxed().toArray();
            try {
                return ((Number) method.invoke(x, boxed)).longValue();
            } catch (IllegalAccessException | InvocationTargetException e) {
                throw new IllegalStateException(this + " threw", e);
            }
        }

        @Override
        public String toString() {
            return name + Arrays.toString(values).replace('[', '(').replace(']', ')');
        }
    }

    private final Check check;
    private final String said;
    private final List<Step> steps;

    private Edge(Check check, String said, List<Step> steps) {
        this.check = check;
        this.said = said;
        this.steps = steps;
    }

    /** A new object. */
    static Edge fresh(Check check) {
        return new Edge(check, "", List.of());
    }

    /** A TOWN by TEXT 0. */
    static Edge town(Check check, String said) {
        return fresh(check).text(0, said).then("town", 0);
    }

    /** One more call ahead, which must not be refused. */
    Edge then(String name, int... values) {
        return with(new Step(name, values, false));
    }

    /** One more call ahead, whatever it answers. */
    Edge tried(String name, int... values) {
        return with(new Step(name, values, true));
    }

    Edge times(int n, String name, int... values) {
        Edge edge = this;
        for (int k = 0; k < n; k++) {
            edge = edge.then(name, values);
        }
        return edge;
    }

    Edge text(int t, String what) {
        Edge edge = new Edge(check, said + "'" + what + "' ", steps).then("text", t, what.length());
        for (int i = 0; i < what.length(); i++) {
            edge = edge.then("put", t, i, what.charAt(i));
        }
        return edge;
    }

    Edge row(int r, int... values) {
        Edge edge = then("row", r, values.length);
        for (int i = 0; i < values.length; i++) {
            edge = edge.then("lay", r, i, values[i]);
        }
        return edge;
    }

    private Edge with(Step step) {
        List<Step> more = new ArrayList<>(steps);
        more.add(step);
        return new Edge(check, said, more);
    }

    Edge answers(long want, String name, int... values) {
        Step step = new Step(name, values, true);
        check.due(title(step), step.on(made()), want);
        return this;
    }

    /** The call's own answer, and what it told by asked(). */
    Edge tells(long want, int wantAsked, String name, int... values) {
        Step step = new Step(name, values, true);
        AshGreetings x = made();
        check.due(title(step), step.on(x), want);
        check.due(title(step) + ", asked()", x.asked(), wantAsked);
        return this;
    }

    /** odds() or mid(), and what was told by upper(), lower(). */
    Edge chances(long up, long low, String name, int... values) {
        Step step = new Step(name, values, true);
        AshGreetings x = made();
        check.due(title(step), step.on(x), 1);
        check.due(title(step) + ", upper()", x.upper(), up);
        check.due(title(step) + ", lower()", x.lower(), low);
        return this;
    }

    /** The answer, and that the call left everything as it was. */
    Edge leaves(long want, String name, int... values) {
        compare(want, 0, name, values);
        return this;
    }

    /** Refused with a FINDING, which is told and counted, and nothing else changed. */
    Edge finds(int which, String name, int... values) {
        compare(AshGreetings.FINDING, which, name, values);
        return this;
    }

    private void compare(long want, int which, String name, int... values) {
        Step step = new Step(name, values, true);
        AshGreetings x = made();
        AshGreetings twin = made();
        check.due(title(step), step.on(x), want);
        check.due(title(step) + ", finding()", x.finding(), which == 0 ? twin.finding() : which);
        for (int f = 1; f <= 5; f++) {
            int due = twin.findings(f) + (f == which ? 1 : 0);
            check.due(title(step) + ", findings(" + f + ")", x.findings(f), due);
        }
        List<Long> left = everythingIn(x);
        List<Long> before = everythingIn(twin);
        check.due(title(step) + " leaves all: " + left + " " + before, left.equals(before) ? 1 : 0, 1);
    }

    /** Looks behind what digest() tells, too: each DEED by undoing it, each kept TOWN by going on. */
    private static List<Long> everythingIn(AshGreetings x) {
        List<Long> all = new ArrayList<>(List.of((long) x.asked(), x.upper(), x.lower(), x.digest()));
        for (int n = x.count(2); n >= 0; n--) {
            all.add((long) x.undo(n));
            all.add(x.digest());
        }
        for (int k = 0; k < 3; k++) {
            all.add((long) x.on(k));
            all.add(x.digest());
            all.add((long) x.undo(0));
            all.add(x.digest());
        }
        return all;
    }

    private AshGreetings made() {
        AshGreetings x = new AshGreetings();
        for (Step step : steps) {
            long answer = step.on(x);
            if (!step.mayBeRefused() && answer < 0) {
                check.due(said + step + " on the way", answer, 0);
            }
        }
        return x;
    }

    private String title(Step step) {
        StringBuilder title = new StringBuilder(said);
        for (Step ahead : steps) {
            boolean isWriting = ahead.name().equals("put") || ahead.name().equals("text");
            title.append(isWriting ? "" : ahead + " ");
        }
        return title.append(step).toString();
    }
}
