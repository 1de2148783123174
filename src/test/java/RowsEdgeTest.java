/** The boundary cases of promises 2 to 7, each on an object of its own. */
public final class RowsEdgeTest {
    private static final int BAD = AshGreetings.BAD;
    private static final int NOTHING = 1, BEYOND = 2, NOUGHT = 4, SIZE = 5;
    private static final int MIN = Integer.MIN_VALUE, MAX = Integer.MAX_VALUE;
    private static final int[] NO_STRIPS = {-1, 6, MIN, MAX};

    public static void main(String[] args) {
        Check check = new Check("RowsEdgeTest");
        row(check);
        lay(check);
        at(check);
        tear(check);
        copy(check);
        copyRefused(check);
        mean(check);
        check.end();
    }

    private static void row(Check check) {
        Edge none = Edge.fresh(check);
        for (int r = 0; r < 6; r++) {
            none.answers(0, "row", r, 0).answers(40, "row", r, 40).leaves(BAD, "row", r, 41);
            none.finds(SIZE, "row", r, -1).then("row", r, 0).answers(1, "count", 7);
        }
        none.leaves(BAD, "row", 0, MAX).finds(SIZE, "row", 0, MIN);
        for (int r : NO_STRIPS) {
            // BAD is ahead of SIZE.
            none.leaves(BAD, "row", r, 0).leaves(BAD, "row", r, 41).leaves(BAD, "row", r, -1);
        }
        none.then("row", 0, 40).tells(1, 0, "at", 0, 0).tells(1, 0, "at", 0, 39).finds(BEYOND, "at", 0, 40);
        Edge old = none.row(0, 5, 6, 7);
        old.leaves(BAD, "row", 0, 41).finds(SIZE, "row", 0, -1);
        // Made anew, it has only noughts, also where it was longer in between.
        old.then("row", 0, 3).tells(1, 0, "at", 0, 0).tells(1, 0, "at", 0, 2);
        old.then("row", 0, 1).then("row", 0, 3).tells(1, 0, "at", 0, 2);
        old.then("row", 0, 2).finds(BEYOND, "at", 0, 2);
        old.then("row", 1, 3).tells(1, 7, "at", 0, 2);
    }

    private static void lay(Check check) {
        Edge three = Edge.fresh(check).then("row", 0, 3);
        three.tells(1, 0, "lay", 0, 0, 5).tells(1, 0, "lay", 0, 2, 5);
        three.then("lay", 0, 2, MIN).tells(1, MIN, "lay", 0, 2, MAX).tells(1, MIN, "at", 0, 2);
        three.then("lay", 0, 0, MAX).tells(1, MAX, "lay", 0, 0, 0).tells(1, 0, "at", 0, 1);
        three.then("lay", 0, 1, -9).tells(1, -9, "lay", 0, 1, -9);
        for (int i : new int[] {3, -1, MIN, MAX, 40}) {
            three.finds(BEYOND, "lay", 0, i, 1);
            // NOTHING is ahead of BEYOND.
            three.finds(NOTHING, "lay", 1, i, 1);
        }
        three.finds(NOTHING, "lay", 5, 0, 1).then("tear", 0).finds(NOTHING, "lay", 0, 0, 1);
        three.then("row", 0, 0).finds(BEYOND, "lay", 0, 0, 1);
        three.then("row", 5, 40).tells(1, 0, "lay", 5, 39, 8).finds(BEYOND, "lay", 5, 40, 8);
        for (int r : NO_STRIPS) {
            three.leaves(BAD, "lay", r, 0, 1).leaves(BAD, "lay", r, -1, 1);
        }
    }

    private static void at(Check check) {
        Edge three = Edge.fresh(check).row(0, 5, 6, MIN);
        three.tells(1, 5, "at", 0, 0).tells(1, MIN, "at", 0, 2);
        for (int i : new int[] {3, -1, MIN, MAX, 40}) {
            three.finds(BEYOND, "at", 0, i).finds(NOTHING, "at", 1, i);
        }
        three.finds(NOTHING, "at", 5, 0).then("tear", 0).finds(NOTHING, "at", 0, 0);
        three.then("row", 0, 0).finds(BEYOND, "at", 0, 0);
        for (int r : NO_STRIPS) {
            three.leaves(BAD, "at", r, 0).leaves(BAD, "at", r, -1);
        }
    }

    private static void tear(Check check) {
        Edge none = Edge.fresh(check);
        for (int r = 0; r < 6; r++) {
            none.finds(NOTHING, "tear", r).then("row", r, 0).answers(1, "tear", r);
            none.then("row", r, 40).then("tear", r).finds(NOTHING, "tear", r).answers(0, "count", 7);
        }
        for (int r : NO_STRIPS) {
            none.then("row", 0, 1).leaves(BAD, "tear", r);
        }
        Edge two = none.row(0, 5).row(1, 6);
        two.then("tear", 0).tells(1, 6, "at", 1, 0).answers(1, "count", 7);
        two.then("tear", 0).then("row", 0, 1).tells(1, 0, "at", 0, 0);
    }

    private static void copy(Check check) {
        Edge two = Edge.fresh(check).row(0, 1, 2, 3, 4).row(1, 8, 9);
        // Of none, also just behind the last place; of all to itself.
        two.leaves(1, "copy", 0, 0, 1, 0, 0).leaves(1, "copy", 0, 4, 1, 2, 0);
        two.leaves(1, "copy", 0, 0, 0, 0, 4).leaves(1, "copy", 0, 4, 0, 4, 0);
        two.then("row", 2, 0).leaves(1, "copy", 2, 0, 2, 0, 0).leaves(1, "copy", 2, 0, 0, 4, 0);
        // As if taken ahead, forward and back.
        is(two.then("copy", 0, 0, 0, 1, 3), 0, 1, 1, 2, 3);
        is(two.then("copy", 0, 1, 0, 0, 3), 0, 2, 3, 4, 4);
        is(two.then("copy", 0, 0, 0, 2, 2), 0, 1, 2, 1, 2);
        is(two.then("copy", 0, 3, 0, 0, 1), 0, 4, 2, 3, 4);
        // To the last place of another one, from the last place; what was taken stays.
        is(two.then("copy", 0, 2, 1, 0, 2), 1, 3, 4);
        is(two.then("copy", 0, 3, 1, 1, 1), 1, 8, 4);
        is(two.then("copy", 0, 2, 1, 0, 2), 0, 1, 2, 3, 4);
        is(two.then("copy", 1, 0, 0, 2, 2), 0, 1, 2, 8, 9);
        Edge full = Edge.fresh(check).then("row", 0, 40).then("lay", 0, 39, 7).then("row", 5, 40);
        full.then("copy", 0, 0, 5, 0, 40).tells(1, 7, "at", 5, 39);
        full.finds(BEYOND, "copy", 0, 0, 5, 0, 41).finds(BEYOND, "copy", 0, 1, 5, 0, 40);
    }

    private static void copyRefused(Check check) {
        Edge two = Edge.fresh(check).row(0, 1, 2, 3, 4).row(1, 8, 9);
        for (int i : new int[] {-1, 5, MIN, MAX}) {
            two.finds(BEYOND, "copy", 0, i, 1, 0, 0).finds(BEYOND, "copy", 0, i, 1, 0, 1);
            two.finds(BEYOND, "copy", 1, 0, 0, i, 0).finds(BEYOND, "copy", 1, 0, 0, i, 1);
            // SIZE is ahead of BEYOND, NOTHING is, too.
            two.finds(SIZE, "copy", 0, i, 1, 0, -1).finds(SIZE, "copy", 1, 0, 0, i, -1);
            two.finds(NOTHING, "copy", 2, i, 1, 0, 1).finds(NOTHING, "copy", 1, 0, 2, i, 1);
        }
        two.finds(BEYOND, "copy", 0, 4, 1, 0, 1).finds(BEYOND, "copy", 0, 0, 1, 2, 1);
        two.finds(BEYOND, "copy", 0, 3, 1, 0, 2).finds(BEYOND, "copy", 0, 0, 1, 1, 2);
        two.finds(BEYOND, "copy", 0, 0, 0, 0, 5).finds(BEYOND, "copy", 0, 0, 1, 0, 3);
        // Sums that wrap around.
        two.finds(BEYOND, "copy", 0, 1, 0, 0, MAX).finds(BEYOND, "copy", 0, 0, 0, 1, MAX);
        two.finds(BEYOND, "copy", 0, MAX, 0, 0, MAX).finds(BEYOND, "copy", 0, 0, 0, MAX, MAX);
        two.finds(SIZE, "copy", 0, 0, 1, 0, -1).finds(SIZE, "copy", 0, 0, 1, 0, MIN);
        two.finds(SIZE, "copy", 2, 0, 1, 0, -1).finds(SIZE, "copy", 0, 0, 2, 0, -1);
        two.finds(NOTHING, "copy", 2, 0, 1, 0, 0).finds(NOTHING, "copy", 0, 0, 2, 0, 0);
        two.finds(NOTHING, "copy", 2, 0, 2, 0, 0).finds(NOTHING, "copy", 2, 0, 3, 0, 1);
        for (int r : NO_STRIPS) {
            two.leaves(BAD, "copy", r, 0, 1, 0, 1).leaves(BAD, "copy", 0, 0, r, 0, 1);
            two.leaves(BAD, "copy", r, 0, 1, 0, -1).leaves(BAD, "copy", 0, 0, r, 0, -1);
            two.leaves(BAD, "copy", r, 0, 2, 9, 0).leaves(BAD, "copy", 2, 9, r, 0, 0);
        }
    }

    private static void is(Edge edge, int r, int... values) {
        for (int i = 0; i < values.length; i++) {
            edge.tells(1, values[i], "at", r, i);
        }
    }

    private static void mean(Check check) {
        Edge none = Edge.fresh(check);
        meanIs(none, 5, 5);
        meanIs(none, 1, 1, 2);
        meanIs(none, 1, 1, 2, 2);
        // Cut, not rounded down.
        meanIs(none, -1, -1, -2);
        meanIs(none, 0, -1, 0);
        meanIs(none, 0, 1, 0);
        meanIs(none, 0, MAX, MIN);
        int[] most = new int[40];
        int[] least = new int[40];
        java.util.Arrays.fill(most, MAX);
        java.util.Arrays.fill(least, MIN);
        meanIs(none, MAX, most);
        meanIs(none, MIN, least);
        none.then("row", 0, 40).tells(1, 0, "mean", 0);
        none.row(0, 6, 8).tells(1, 7, "mean", 0).then("row", 0, 0).finds(NOUGHT, "mean", 0);
        none.row(5, 6, 8).tells(1, 7, "mean", 5).then("tear", 5).finds(NOTHING, "mean", 5);
        none.finds(NOTHING, "mean", 0);
        for (int r : NO_STRIPS) {
            none.leaves(BAD, "mean", r);
        }
    }

    private static void meanIs(Edge none, int want, int... values) {
        none.row(0, values).tells(1, want, "mean", 0);
    }
}
