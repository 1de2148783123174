import java.lang.reflect.Field;
import java.lang.reflect.Member;
import java.lang.reflect.Method;
import java.lang.reflect.Modifier;
import java.util.List;
import java.util.Set;
import java.util.TreeSet;

/** The face and the constants, as rule 1 of LANGUAGE.md wants them. */
public final class FaceTest {
    private static final List<String> FACE = List.of(
        "row 2", "lay 3", "at 2", "tear 1", "copy 5", "mean 1", "text 2", "put 3", "fault 1", "town 1",
        "person 2", "deep 1", "mark 2", "day 0", "fall 2", "wind 1", "go 2", "undo 1", "keep 1", "on 1",
        "meets 0", "later 2", "peace 0", "left 1", "ash 1", "best 1", "kinds 2", "highs 2", "test 2",
        "duel 1", "odds 3", "mid 2", "lots 2", "asked 0", "upper 0", "lower 0", "count 1", "finding 0",
        "findings 1", "digest 0");

    public static void main(String[] args) {
        Check check = new Check("FaceTest");
        constantsAreAsTold(check);
        faceIsAsTold(check);
        check.end();
    }

    private static void constantsAreAsTold(Check check) {
        check.due("BAD", AshGreetings.BAD, -1);
        check.due("FULL", AshGreetings.FULL, -2);
        check.due("FINDING", AshGreetings.FINDING, -3);
        check.due("STATE", AshGreetings.STATE, -4);
        check.due("SPENT", AshGreetings.SPENT, -6);
        check.due("NONE", AshGreetings.NONE, -9);
    }

    private static void faceIsAsTold(Check check) {
        Set<String> open = new TreeSet<>();
        Set<String> hidden = new TreeSet<>();
        for (Method method : AshGreetings.class.getDeclaredMethods()) {
            if (isPublic(method)) {
                open.add(method.getName() + " " + method.getParameterCount());
                boolean isLong = method.getReturnType() == long.class;
                boolean wantsLong = List.of("upper", "lower", "digest").contains(method.getName());
                check.due(method.getName() + " answers a long", isLong ? 1 : 0, wantsLong ? 1 : 0);
            } else {
                hidden.add(method.getName());
                check.due(method + " is private", isPrivate(method) ? 1 : 0, 1);
            }
        }
        check.due("the face: " + open, open.equals(new TreeSet<>(FACE)) ? 1 : 0, 1);
        for (String name : FACE) {
            String bare = name.substring(0, name.indexOf(' '));
            check.due("private " + bare, hidden.contains(bare) ? 1 : 0, 0);
        }
        int constants = 0;
        for (Field field : AshGreetings.class.getDeclaredFields()) {
            constants += isPublic(field) ? 1 : 0;
            check.due(field + " is private or public", isPublic(field) || isPrivate(field) ? 1 : 0, 1);
        }
        check.due("public constants", constants, 6);
        check.due("constructors", AshGreetings.class.getDeclaredConstructors().length, 1);
        check.due("final", Modifier.isFinal(AshGreetings.class.getModifiers()) ? 1 : 0, 1);
        int classes = 1 + AshGreetings.class.getDeclaredClasses().length;
        check.due("classes: " + classes, classes <= 12 ? 1 : 0, 1);
    }

    private static boolean isPublic(Member member) {
        return Modifier.isPublic(member.getModifiers());
    }

    private static boolean isPrivate(Member member) {
        return Modifier.isPrivate(member.getModifiers());
    }
}
