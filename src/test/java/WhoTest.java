/** Promises 28 to 30. */
public final class WhoTest {
    private static final int NOTHING = 1, UNLIKE = 3, SIZE = 5;
    private static final int N = 1, D = 2, S = 4, H = 8, P = 16, B = 32;

    public static void main(String[] args) {
        Check check = new Check("WhoTest");
        kindsByWhatWasLeft(check);
        heightsByWhatWasLeft(check);
        whenToLook(check);
        refusals(check);
        check.end();
    }

    private static void kindsByWhatWasLeft(Check check) {
        // 1 never meets a foe; 0 meets 1, who is hid: grudge 5 and 0.
        AshGreetings x = Check.townOf("90000 n5150 n5000");
        kindsAre(check, x, 0, N | S | H | B, 4);
        kindsAre(check, x, 0, N | H, 4, 3);
        kindsAre(check, x, 0, S | B, 4, 4, 3);
        kindsAre(check, x, 0, D | P, 3, 1, 0);
        kindsAre(check, x, 0, 0, 5);
        // Of 1 nothing is told by what is left, but for how it is seen.
        kindsAre(check, x, 1, N | D | S | H | P | B, 4, 3, 2, 1, 0, 0);
        x.day();
        kindsAre(check, x, 0, S | B, 4, 3, 3);
        x.wind(0);
        kindsAre(check, x, 0, B, 4);
        kindsAre(check, x, 0, P, 2);
        kindsAre(check, x, 0, N | D | S | H, 5, 6);
        // In ash 4 deep only a short 1 is hid.
        x = Check.townOf("40000 n5150 n5000");
        kindsAre(check, x, 1, H, 4, 3);
        kindsAre(check, x, 1, N | D | S | P | B, 6);
    }

    private static void kindsAre(Check check, AshGreetings x, int i, int want, int... row) {
        Check.fillRow(x, 3, row);
        check.due("kinds(" + i + ", 3)", x.kinds(i, 3), want);
    }

    private static void heightsByWhatWasLeft(Check check) {
        AshGreetings x = Check.townOf("40000 n5150 n5000");
        highsAre(check, x, 1, 31, 4, 3);
        highsAre(check, x, 1, 1023 - 31, 6, 7);
        highsAre(check, x, 0, 1023, 6, 7, 8, 9, 9);
        highsAre(check, x, 0, 0, 5);
        x = Check.townOf("40000 n5150 h9000");
        highsAre(check, x, 1, 127, 4);
        highsAre(check, x, 1, 1023 - 127, 6);
        x = Check.townOf("90000 n5150 n5000");
        highsAre(check, x, 1, 1023, 4);
    }

    private static void highsAre(Check check, AshGreetings x, int i, int want, int... row) {
        Check.fillRow(x, 3, row);
        check.due("highs(" + i + ", 3)", x.highs(i, 3), want);
    }

    private static void whenToLook(Check check) {
        AshGreetings x = Check.townOf("90000 n5150 n5000");
        // N, H: 4 3 2 1 0; S, B: 4 4 3 3 2 2 1 1 0.
        lookIs(check, x, 2, 2, 4);
        lookIs(check, x, 1, 2, 4, 3);
        lookIs(check, x, 1, 2, 3);
        // Only one KIND: any day will do, so the first.
        x.wind(0);
        lookIs(check, x, 1, 1, 3, 1);
        x.deep(0);
        Check.fillRow(x, 3, 0);
        int before = x.asked();
        check.told(x, "test() of no kind", x.test(0, 3), AshGreetings.NONE, before);
        // All alike on day 1; N, H, D, S 9, P 0, B 8 later.
        x = Check.townOf("00000 n5180 n5000");
        lookIs(check, x, 1, 4, 9, 9);
        // The foe's own foe: a short one would be hid, so it is a neighbour and nobody else.
        x = Check.townOf("40000 n5150 n4150");
        kindsAre(check, x, 0, N, 10, 10);
        lookIs(check, x, 1, 1, 10, 10);
    }

    private static void lookIs(Check check, AshGreetings x, int want, int part, int... row) {
        Check.fillRow(x, 3, row);
        check.told(x, "test(0, 3)", x.test(0, 3), want, part);
    }

    private static void refusals(Check check) {
        AshGreetings none = new AshGreetings();
        none.row(0, 1);
        check.due("kinds(0, 0) without people", none.kinds(0, 0), AshGreetings.BAD);
        check.due("highs(0, 0) without people", none.highs(0, 0), AshGreetings.BAD);
        check.due("test(0, 0) without people", none.test(0, 0), AshGreetings.BAD);
        for (int which = 0; which < 3; which++) {
            refusalsOf(check, which);
        }
    }

    private static int call(AshGreetings x, int which, int i, int r) {
        return which == 0 ? x.kinds(i, r) : which == 1 ? x.highs(i, r) : x.test(i, r);
    }

    private static void refusalsOf(Check check, int which) {
        AshGreetings x = Check.townOf("90000 n5150 n5000");
        String name = "call " + which + ": ";
        check.due(name + "(2, 0)", call(x, which, 2, 0), AshGreetings.BAD);
        check.due(name + "(-1, 0)", call(x, which, -1, 0), AshGreetings.BAD);
        check.due(name + "(0, 6)", call(x, which, 0, 6), AshGreetings.BAD);
        check.due(name + "(0, -1)", call(x, which, 0, -1), AshGreetings.BAD);
        check.finds(x, name + "no row", 0, call(x, which, 0, 0), NOTHING);
        x.row(0, 0);
        check.finds(x, name + "an empty row", 0, call(x, which, 0, 0), SIZE);
        x.row(0, 21);
        x.lay(0, 0, 64);
        check.finds(x, name + "SIZE ahead of UNLIKE", 1, call(x, which, 0, 0), SIZE);
        x.row(0, 20);
        x.lay(0, 19, 64);
        check.finds(x, name + "64", 0, call(x, which, 0, 0), UNLIKE);
        x.lay(0, 19, -1);
        check.finds(x, name + "-1", 1, call(x, which, 0, 0), UNLIKE);
        x.lay(0, 19, 0);
        x.lay(0, 0, 64);
        check.finds(x, name + "64 first", 2, call(x, which, 0, 0), UNLIKE);
        x.lay(0, 0, 0);
        x.lay(0, 19, 63);
        int want = which == 2 ? AshGreetings.NONE : 0;
        check.due(name + "63", call(x, which, 0, 0), want);
    }
}
