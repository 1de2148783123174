import java.io.IOException;
import java.lang.reflect.Field;
import java.lang.reflect.Member;
import java.lang.reflect.Method;
import java.lang.reflect.Modifier;
import java.nio.file.Files;
import java.nio.file.Path;
import java.util.Arrays;
import java.util.List;
import java.util.Set;
import java.util.TreeSet;
import java.util.regex.Matcher;
import java.util.regex.Pattern;

/** The face, the constants, and the rules of LANGUAGE.md that can be seen from outside. */
public final class LanguageTest {
    private static final Path SOURCE = Path.of("src/main/java/AshGreetings.java");
    private static final List<String> FACE = List.of(
        "row 2", "lay 3", "at 2", "tear 1", "copy 5", "mean 1", "text 2", "put 3", "fault 1", "town 1",
        "person 2", "deep 1", "mark 2", "day 0", "fall 2", "wind 1", "go 2", "undo 1", "keep 1", "on 1",
        "meets 0", "later 2", "peace 0", "left 1", "ash 1", "best 1", "kinds 2", "highs 2", "test 2",
        "duel 1", "odds 3", "mid 2", "lots 2", "asked 0", "upper 0", "lower 0", "count 1", "finding 0",
        "findings 1", "digest 0");

    public static void main(String[] args) throws IOException {
        Check check = new Check("LanguageTest");
        constantsAreAsTold(check);
        faceIsAsTold(check);
        sourceKeepsToTheRules(check, Files.readString(SOURCE));
        check.end();
    }

    private static void constantsAreAsTold(Check check) {
        check.due("BAD", AshGreetings.BAD, -1);
        check.due("FULL", AshGreetings.FULL, -2);
        check.due("FINDING", AshGreetings.FINDING, -3);
        check.due("STATE", AshGreetings.STATE, -4);
        check.due("SPENT", AshGreetings.SPENT, -6);
        check.due("NONE", AshGreetings.NONE, -9);
    }

    private static void faceIsAsTold(Check check) {
        Set<String> open = new TreeSet<>();
        Set<String> hidden = new TreeSet<>();
        for (Method method : AshGreetings.class.getDeclaredMethods()) {
            if (isPublic(method)) {
                open.add(method.getName() + " " + method.getParameterCount());
                boolean isLong = method.getReturnType() == long.class;
                boolean wantsLong = List.of("upper", "lower", "digest").contains(method.getName());
                check.due(method.getName() + " answers a long", isLong ? 1 : 0, wantsLong ? 1 : 0);
            } else {
                hidden.add(method.getName());
                check.due(method + " is private", isPrivate(method) ? 1 : 0, 1);
            }
        }
        check.due("the face: " + open, open.equals(new TreeSet<>(FACE)) ? 1 : 0, 1);
        for (String name : FACE) {
            String bare = name.substring(0, name.indexOf(' '));
            check.due("private " + bare, hidden.contains(bare) ? 1 : 0, 0);
        }
        int constants = 0;
        for (Field field : AshGreetings.class.getDeclaredFields()) {
            constants += isPublic(field) ? 1 : 0;
            check.due(field + " is private or public", isPublic(field) || isPrivate(field) ? 1 : 0, 1);
        }
        check.due("public constants", constants, 6);
        check.due("constructors", AshGreetings.class.getDeclaredConstructors().length, 1);
        check.due("final", Modifier.isFinal(AshGreetings.class.getModifiers()) ? 1 : 0, 1);
        int classes = 1 + AshGreetings.class.getDeclaredClasses().length;
        check.due("classes: " + classes, classes <= 12 ? 1 : 0, 1);
    }

    private static boolean isPublic(Member member) {
        return Modifier.isPublic(member.getModifiers());
    }

    private static boolean isPrivate(Member member) {
        return Modifier.isPrivate(member.getModifiers());
    }

    private static void sourceKeepsToTheRules(Check check, String source) {
        String code = Pattern.compile("/\\*.*?\\*/|//[^\\n]*", Pattern.DOTALL).matcher(source).replaceAll("");
        String[] forbidden = {"\\bthrow\\b", "\\btry\\b", "\\bcatch\\b", "\\bsynchronized\\b",
            "\\bassert\\b", "->", "::", "Exact\\b", "\\bpackage\\b", "\\.hashCode\\b",
            "\\.toString\\b", "\\bSystem\\.(?!arraycopy\\b)", "\\bArrays\\.(?!fill\\b|copyOf)",
            "\\bwhile\\b", "import (?!java\\.util\\.Arrays;)"};
        for (String word : forbidden) {
            Matcher matcher = Pattern.compile(word).matcher(code);
            check.due("'" + word + "' in the source", matcher.find() ? 1 : 0, 0);
        }
        boolean isPlain = source.chars().allMatch(sign -> sign >= 1 && sign <= 127);
        check.due("signs 1 to 127 alone", isPlain ? 1 : 0, 1);
        long wide = Arrays.stream(source.split("\n")).filter(line -> line.length() > 110).count();
        check.due("lines that are too long", wide, 0);
    }
}
