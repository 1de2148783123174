/** The boundary cases of promises 28 to 31. */
public final class WhoEdgeTest {
    private static final int BAD = AshGreetings.BAD, STATE = AshGreetings.STATE, NONE = AshGreetings.NONE;
    private static final int NOTHING = 1, UNLIKE = 3, SIZE = 5;
    private static final int MIN = Integer.MIN_VALUE, MAX = Integer.MAX_VALUE;
    private static final int ALL_KINDS = 63, ALL_HIGHS = 1023;
    private static final String[] CALLS = {"kinds", "highs", "test"};
    private static final String TWO = "90000 n5150 n5000";

    public static void main(String[] args) {
        Check check = new Check("WhoEdgeTest");
        for (String call : CALLS) {
            refused(check, call);
            refusedInOrder(check, call);
        }
        kinds(check);
        highs(check);
        rowsAtTheirEnds(check);
        test(check);
        duel(check);
        duelAtEnds(check);
        check.end();
    }

    private static void refused(Check check, String call) {
        Edge two = Edge.town(check, TWO).row(0, 4).then("deep", 0);
        for (int i : new int[] {-1, 2, 7, MIN, MAX}) {
            two.leaves(BAD, call, i, 0);
        }
        for (int r : new int[] {-1, 6, MIN, MAX}) {
            two.leaves(BAD, call, 0, r);
        }
        Edge.fresh(check).row(0, 4).leaves(BAD, call, 0, 0);
        for (int r = 1; r < 6; r++) {
            two.finds(NOTHING, call, 0, r);
        }
        two.then("tear", 0).finds(NOTHING, call, 0, 0);
        for (int n : new int[] {0, 21, 22, 40}) {
            two.then("row", 0, n).finds(SIZE, call, 0, 0);
        }
        for (int v : new int[] {-1, 64, MIN, MAX}) {
            two.row(0, v).finds(UNLIKE, call, 0, 0);
            two.row(0, 4, 3, v).finds(UNLIKE, call, 0, 0);
            two.row(0, v, 3, 2).finds(UNLIKE, call, 0, 0);
            // What does not fit at all is looked at to its end.
            two.row(0, 60, 60, v).finds(UNLIKE, call, 0, 0);
            two.then("row", 0, 20).then("lay", 0, 19, v).finds(UNLIKE, call, 0, 0);
        }
    }

    /** BAD, NOTHING, SIZE, UNLIKE. */
    private static void refusedInOrder(Check check, String call) {
        Edge two = Edge.town(check, TWO);
        two.leaves(BAD, call, 2, 0).leaves(BAD, call, 2, 6);
        two.then("row", 0, 0).leaves(BAD, call, 2, 0).then("row", 0, 21).leaves(BAD, call, -1, 0);
        two.row(0, 64).leaves(BAD, call, 2, 0);
        two.then("row", 0, 21).then("lay", 0, 0, 64).finds(SIZE, call, 0, 0);
        two.then("row", 0, 21).then("lay", 0, 20, -1).finds(SIZE, call, 0, 0);
        Edge.fresh(check).leaves(BAD, call, 0, 0).leaves(BAD, call, 0, 6);
    }

    private static void kinds(Check check) {
        Edge two = Edge.town(check, TWO);
        two.row(0, 5).leaves(0, "kinds", 0, 0).row(0, 63).leaves(0, "kinds", 0, 0);
        two.row(0, 4).leaves(1 | 4 | 8 | 32, "kinds", 0, 0).row(0, 3).leaves(2 | 16, "kinds", 0, 0);
        // Behind 1, 2, .. DAYS from now, not behind none.
        two.row(0, 5, 4).leaves(0, "kinds", 0, 0).row(0, 4, 3).leaves(1 | 8, "kinds", 0, 0);
        // All else as it is: one who is HID only as a SHORT one.
        Edge.town(check, "40000 n5150 n6000").row(0, 4).leaves(8, "kinds", 1, 0);
        // What one is told to be does not matter; the DAY it is does.
        Edge.town(check, "90000 b5150 n5000").row(0, 4, 3).leaves(1 | 8, "kinds", 0, 0);
        Edge odd = Edge.town(check, "90000 n5151 n5000").then("day").then("go", 0, 0);
        odd.row(0, 5).leaves(4 | 32, "kinds", 0, 0).row(0, 5, 4).leaves(4 | 32, "kinds", 0, 0);
        // The last one of seven.
        Edge.town(check, "90000" + "n5000".repeat(6) + "n5150").row(5, 4, 3, 2).leaves(9, "kinds", 6, 5);
    }

    private static void highs(Check check) {
        Edge two = Edge.town(check, "40000 n5150 n5000");
        two.row(0, 4).leaves(31, "highs", 1, 0).row(0, 6).leaves(ALL_HIGHS - 31, "highs", 1, 0);
        two.row(0, 5).leaves(0, "highs", 1, 0).row(0, 6).leaves(ALL_HIGHS, "highs", 0, 0);
        Edge.town(check, "00000 n5150 n5000").row(0, 4).leaves(1, "highs", 1, 0);
        Edge.town(check, "00000 n5150 h5000").row(0, 4).leaves(7, "highs", 1, 0);
        Edge.town(check, "80000 n5150 n5000").row(0, 6).leaves(512, "highs", 1, 0);
        Edge.town(check, "90000 n5150 n5000").row(0, 6).leaves(0, "highs", 1, 0);
        Edge.town(check, "70000 n5150 h5000").row(0, 6).leaves(0, "highs", 1, 0);
    }

    /** ROWS of 1 and of 20 numbers, of 0 and of 63. */
    private static void rowsAtTheirEnds(Check check) {
        Edge most = Edge.town(check, "00000 n9190 n9190 n9190 n9190 n9190 n9190 n9190");
        Edge most20 = most.row(1, filled(20, 63));
        most20.leaves(1 | 2 | 4 | 8 | 32, "kinds", 3, 1).leaves(ALL_HIGHS - 1, "highs", 3, 1);
        most20.then("lay", 1, 19, 62).leaves(0, "kinds", 3, 1).leaves(0, "highs", 3, 1);
        most.row(1, 63).leaves(1 | 2 | 4 | 8 | 32, "kinds", 0, 1);
        Edge least = Edge.town(check, "99999 n5100 n5000");
        least.row(1, filled(20, 0)).leaves(ALL_KINDS, "kinds", 0, 1).leaves(ALL_HIGHS, "highs", 0, 1);
        least.row(1, filled(20, 0)).tells(1, 6, "test", 0, 1);
        least.row(1, 0).leaves(ALL_KINDS, "kinds", 1, 1).leaves(ALL_HIGHS, "highs", 1, 1);
        least.row(1, filled(20, 0)).then("lay", 1, 19, 1).leaves(0, "kinds", 0, 1).leaves(NONE, "test", 0, 1);
        most.row(1, filled(21, 63)).finds(SIZE, "kinds", 0, 1);
    }

    private static int[] filled(int n, int v) {
        int[] values = new int[n];
        java.util.Arrays.fill(values, v);
        return values;
    }

    private static void test(Check check) {
        Edge two = Edge.town(check, TWO).then("deep", 0);
        // NONE leaves asked().
        two.row(0, 5).then("deep", 0).tells(NONE, 2, "test", 0, 0).leaves(NONE, "test", 0, 0);
        // The first of those that are as good.
        two.row(0, 4).tells(2, 2, "test", 0, 0).row(0, 4, 3).tells(1, 2, "test", 0, 0);
        // One KIND is a part of one.
        Edge.town(check, "00000 n5150 n5000").row(0, 3).tells(1, 1, "test", 0, 0);
        Edge.town(check, "40000 n5150 n4150").row(0, 10, 10).leaves(1, "kinds", 0, 0).tells(1, 1, "test", 0, 0);
        Edge.town(check, "00000 n5150 n5000").row(0, 5).leaves(32, "kinds", 0, 0).tells(1, 1, "test", 0, 0);
        // All are alike on each DAY: one who meets nobody.
        Edge.town(check, "00000 n5050 n5000").row(0, 5).tells(1, 6, "test", 0, 0);
        // Two KINDS that come apart late: as 9 fits all that are ANGERED, the BROTHER's 9 too, never.
        Edge.town(check, "00000 n9190 n9000").row(0, 9).tells(1, 5, "test", 0, 0);
        // A STUBBORN one and a NEIGHBOUR, SHORT or not, part on DAY 2, not on DAY 1; a BROTHER with them.
        Edge.town(check, "90000 n5110 n5000").row(0, 0).tells(1, 6, "test", 0, 0);
        Edge odd = Edge.town(check, "90000 n5151 n5000").then("day").then("go", 0, 0);
        odd.row(0, 5).tells(1, 2, "test", 0, 0);
    }

    private static void duel(Check check) {
        Edge two = Edge.town(check, "40000 n5130 n5030");
        for (int n : new int[] {-1, 4, MIN, MAX}) {
            two.leaves(BAD, "duel", n);
            Edge.fresh(check).leaves(BAD, "duel", n);
        }
        for (int n = 0; n <= 3; n++) {
            Edge.fresh(check).leaves(STATE, "duel", n);
        }
        two.leaves(12, "duel", 0).leaves(3, "duel", 1).leaves(12, "duel", 2).leaves(12, "duel", 3);
        // In the last STREET as in the first.
        Edge last = Edge.town(check, "00004 n5134 n5034");
        last.leaves(12, "duel", 0).leaves(3, "duel", 1).leaves(12, "duel", 2).leaves(12, "duel", 3);
    }

    private static void duelAtEnds(Check check) {
        // Behind 6 DAYS, not 5 or 7.
        Edge.town(check, "00000 n5100 n5000").leaves(6, "duel", 0);
        Edge.town(check, "99999 n5190 n5000").leaves(3, "duel", 0).leaves(3, "duel", 1);
        // A last turn of the wind; of the ash.
        Edge.town(check, "90000 n5130 n5030").leaves(3, "duel", 1).leaves(12, "duel", 2).leaves(12, "duel", 3);
        Edge.town(check, "00000 n1130 n1030").leaves(3, "duel", 1).leaves(12, "duel", 2).leaves(3, "duel", 3);
        // 1 FALLS, not more: two are missing.
        Edge.town(check, "30000 n5130 n5030").leaves(12, "duel", 1).leaves(12, "duel", 3);
        // 9 at most: no ash falls where it is 9 deep, and none is seen higher.
        Edge.town(check, "99999 n9130 n9030").leaves(3, "duel", 0).leaves(3, "duel", 1).leaves(12, "duel", 2);
        Edge.town(check, "89999 n9130 n9030").leaves(12, "duel", 0).leaves(3, "duel", 1).leaves(12, "duel", 3);
        // To do nothing is the best for the ash: it would hide the one by whom others are forgiven less.
        Edge apart = Edge.town(check, "00000 n5130 n5031");
        apart.leaves(6, "duel", 0).leaves(6, "duel", 1).leaves(6, "duel", 2).leaves(6, "duel", 3);
        // The wind does best to do nothing where clearing changes nothing.
        Edge.town(check, "55555 p5130 n5030").leaves(3, "duel", 2);
        // Cleared is 0 deep: one who is 0 high is HID yet.
        Edge.town(check, "10000 n5130 n0030").leaves(3, "duel", 2);
        // The ash begins what it ends in its last turn, as the wind can't clear both that and STREET 1.
        Edge begun = Edge.town(check, "04000 n4131 n4001 n2132 n2532 s1193 n1003");
        begun.leaves(27, "duel", 0).leaves(24, "duel", 1).leaves(33, "duel", 2).leaves(24, "duel", 3);
        // Two ash turns of three count together where the wind must choose between two STREETS.
        Edge.town(check, "44000 n5130 n5000 n5131 n5001").leaves(18, "duel", 0).leaves(9, "duel", 1)
            .leaves(18, "duel", 2).leaves(9, "duel", 3);
        Edge.town(check, "94000 n5130 n5000 n5131 n5001").leaves(9, "duel", 0).leaves(0, "duel", 1)
            .leaves(9, "duel", 2).leaves(9, "duel", 3);
    }
}
