/** The boundary cases of promises 15 to 21. */
public final class DeedsEdgeTest {
    private static final int BAD = AshGreetings.BAD, FULL = AshGreetings.FULL, STATE = AshGreetings.STATE;
    private static final int NOTHING = 1;
    private static final int MIN = Integer.MIN_VALUE, MAX = Integer.MAX_VALUE;
    private static final int[] NO_STREETS = {-1, 5, MIN, MAX};
    private static final String TWO = "08930 n5150 n5031";

    public static void main(String[] args) {
        Check check = new Check("DeedsEdgeTest");
        day(check);
        fall(check);
        wind(check);
        go(check);
        undo(check);
        undoAtEnds(check);
        keep(check);
        on(check);
        check.end();
    }

    private static void day(Check check) {
        Edge.fresh(check).leaves(STATE, "day");
        Edge two = Edge.town(check, TWO);
        two.answers(8, "day").then("day").answers(1, "count", 1).answers(1, "count", 2);
        Edge last = two.times(39, "day");
        last.answers(8, "day");
        Edge full = last.then("day");
        full.leaves(FULL, "day").answers(40, "count", 1).answers(40, "count", 2);
        full.then("undo", 39).answers(8, "day").then("day").leaves(FULL, "day");
        // FULL by DEEDS of any kind, also where it is still DAY 0.
        Edge others = two;
        for (int k = 0; k < 10; k++) {
            others = others.then("fall", 0, 2).then("go", 0, 3).then("wind", 0).then("go", 0, 0);
        }
        others.leaves(FULL, "day").answers(0, "count", 1).answers(40, "count", 2);
    }

    private static void fall(Check check) {
        Edge two = Edge.town(check, TWO);
        two.answers(1, "fall", 0, 1).answers(9, "fall", 0, 9).answers(9, "fall", 1, 1).answers(9, "fall", 1, 9);
        two.then("fall", 1, 9).answers(9, "deep", 1).leaves(STATE, "fall", 1, 1);
        two.answers(3, "fall", 4, 3).answers(9, "fall", 3, 6).answers(9, "fall", 3, 7).answers(8, "fall", 3, 5);
        two.leaves(STATE, "fall", 2, 1).leaves(STATE, "fall", 2, 9);
        Edge full = two.times(40, "day");
        for (int n : new int[] {0, 10, -1, MIN, MAX}) {
            // BAD is ahead of STATE, of FULL.
            two.leaves(BAD, "fall", 0, n).leaves(BAD, "fall", 2, n);
            Edge.fresh(check).leaves(BAD, "fall", 0, n);
            full.leaves(BAD, "fall", 0, n);
        }
        for (int c : NO_STREETS) {
            two.leaves(BAD, "fall", c, 1).leaves(BAD, "fall", c, 0);
            Edge.fresh(check).leaves(BAD, "fall", c, 1);
            full.leaves(BAD, "fall", c, 1);
        }
        Edge.fresh(check).leaves(STATE, "fall", 0, 1).leaves(STATE, "fall", 4, 9);
        // FULL is behind STATE.
        full.leaves(FULL, "fall", 0, 1).leaves(STATE, "fall", 2, 1);
        Edge last = two.times(39, "day");
        last.answers(9, "fall", 1, 1).then("fall", 1, 1).leaves(FULL, "fall", 0, 1).leaves(STATE, "fall", 1, 1);
    }

    private static void wind(Check check) {
        Edge two = Edge.town(check, TWO);
        two.answers(8, "wind", 1).answers(9, "wind", 2).then("wind", 2).answers(0, "deep", 2);
        two.leaves(STATE, "wind", 0).leaves(STATE, "wind", 4).then("wind", 3).leaves(STATE, "wind", 3);
        two.then("fall", 4, 1).answers(1, "wind", 4);
        Edge full = two.times(40, "day");
        for (int c : NO_STREETS) {
            two.leaves(BAD, "wind", c);
            full.leaves(BAD, "wind", c);
            Edge.fresh(check).leaves(BAD, "wind", c);
        }
        Edge.fresh(check).leaves(STATE, "wind", 0).leaves(STATE, "wind", 4);
        full.leaves(FULL, "wind", 1).leaves(STATE, "wind", 0);
        two.times(39, "day").answers(8, "wind", 1).then("wind", 1).leaves(FULL, "wind", 2).leaves(STATE, "wind", 1);
    }

    private static void go(Check check) {
        Edge two = Edge.town(check, TWO);
        two.answers(0, "go", 0, 4).answers(1, "go", 1, 0).then("go", 0, 4).answers(4, "go", 0, 0);
        two.leaves(STATE, "go", 0, 0).leaves(STATE, "go", 1, 1).then("go", 0, 4).leaves(STATE, "go", 0, 4);
        Edge full = two.times(40, "day");
        for (int c : NO_STREETS) {
            two.leaves(BAD, "go", 0, c).leaves(BAD, "go", 2, c);
            full.leaves(BAD, "go", 0, c);
        }
        for (int i : new int[] {-1, 2, 7, MIN, MAX}) {
            two.leaves(BAD, "go", i, 0);
            full.leaves(BAD, "go", i, 0);
        }
        Edge.fresh(check).leaves(BAD, "go", 0, 0).leaves(BAD, "go", 0, 5);
        full.leaves(FULL, "go", 0, 1).leaves(STATE, "go", 0, 0);
        two.times(39, "day").answers(0, "go", 0, 1).then("go", 0, 1).leaves(FULL, "go", 0, 0).leaves(STATE, "go", 0, 1);
        Edge.town(check, "00000" + "n5000".repeat(7)).answers(0, "go", 6, 4).leaves(BAD, "go", 7, 4);
    }

    private static void undo(Check check) {
        Edge.fresh(check).leaves(0, "undo", 0).leaves(BAD, "undo", 1).leaves(BAD, "undo", -1);
        Edge two = Edge.town(check, TWO);
        two.leaves(0, "undo", 0).leaves(BAD, "undo", 1).leaves(BAD, "undo", -1);
        Edge three = two.then("fall", 0, 9).then("day").then("go", 0, 1);
        three.leaves(0, "undo", 3).answers(1, "undo", 2).answers(3, "undo", 0);
        for (int n : new int[] {-1, 4, 40, 41, MIN, MAX}) {
            three.leaves(BAD, "undo", n);
        }
        three.then("undo", 0).leaves(BAD, "undo", 1).answers(0, "count", 1).answers(0, "deep", 0);
        three.then("undo", 1).answers(9, "deep", 0).answers(0, "count", 1).tells(1, 0, "person", 0, 4);
        three.then("undo", 2).answers(1, "count", 1).tells(1, 0, "person", 0, 4);
        Edge full = two.times(40, "day");
        full.leaves(0, "undo", 40).leaves(BAD, "undo", 41).answers(40, "undo", 0).answers(1, "undo", 39);
        full.then("undo", 0).answers(0, "count", 1).answers(8, "day");
        // What is kept stays, and asked() does.
        three.then("keep", 1).then("deep", 1).then("undo", 0).answers(3, "on", 1);
        three.then("deep", 1).tells(3, 2, "undo", 0);
        // A town anew has none to undo.
        three.then("town", 0).leaves(BAD, "undo", 1);
    }

    /** GRUDGES that came to 0 or to 9, and ash that came to 9 or to 0, come back as they were. */
    private static void undoAtEnds(Check check) {
        Edge low = Edge.town(check, "90000 d9110 n5020").then("day");
        low.tells(1, 0, "person", 0, 3).then("undo", 0).tells(1, 1, "person", 0, 3);
        low.times(3, "day").then("undo", 2).tells(1, 0, "person", 0, 3).then("undo", 0).tells(1, 1, "person", 0, 3);
        Edge high = Edge.town(check, "00000 n9190 n9180").then("day");
        high.answers(18, "count", 3).then("undo", 0).answers(17, "count", 3);
        high.times(5, "day").then("undo", 0).answers(17, "count", 3);
        Edge ash = Edge.town(check, TWO);
        ash.then("fall", 1, 9).then("undo", 0).answers(8, "deep", 1);
        ash.then("wind", 1).then("undo", 0).answers(8, "deep", 1);
        ash.then("fall", 1, 9).then("wind", 1).then("undo", 1).answers(9, "deep", 1);
        ash.then("go", 0, 4).then("go", 0, 2).then("undo", 1).tells(1, 4, "person", 0, 4);
    }

    private static void keep(Check check) {
        for (int k = 0; k < 3; k++) {
            Edge.fresh(check).leaves(STATE, "keep", k);
            Edge kept = Edge.town(check, TWO).then("keep", k);
            kept.answers(1, "count", 9).answers(0, "on", k).finds(NOTHING, "on", (k + 1) % 3);
        }
        Edge two = Edge.town(check, TWO);
        for (int k : new int[] {-1, 3, MIN, MAX}) {
            // BAD is ahead of STATE.
            Edge.fresh(check).leaves(BAD, "keep", k);
            two.leaves(BAD, "keep", k).then("keep", 0).leaves(BAD, "keep", k);
        }
        two.answers(0, "keep", 0).then("day").answers(1, "keep", 2);
        two.times(40, "day").answers(40, "keep", 1).then("keep", 1).then("undo", 0).answers(40, "on", 1);
        // Kept anew in its place; nothing done later comes to it.
        Edge anew = two.then("keep", 0).then("day").then("keep", 0);
        anew.answers(1, "count", 9).answers(1, "on", 0);
        two.then("keep", 0).then("fall", 0, 4).then("on", 0).answers(0, "deep", 0).answers(0, "count", 2);
        two.then("deep", 0).tells(0, 1, "keep", 0);
    }

    private static void on(Check check) {
        Edge two = Edge.town(check, TWO);
        for (int k = 0; k < 3; k++) {
            Edge.fresh(check).finds(NOTHING, "on", k);
            two.then("day").finds(NOTHING, "on", k);
        }
        for (int k : new int[] {-1, 3, MIN, MAX}) {
            Edge.fresh(check).leaves(BAD, "on", k);
            two.then("keep", 0).leaves(BAD, "on", k);
        }
        Edge gone = two.then("fall", 0, 5).then("day").then("keep", 2).then("wind", 0).then("go", 1, 0).then("day");
        gone.answers(5, "count", 2).answers(2, "on", 2);
        Edge back = gone.then("on", 2);
        back.answers(2, "count", 2).answers(5, "deep", 0).answers(1, "count", 1).tells(1, 1, "person", 1, 4);
        // It is kept yet, and goes on for itself.
        back.answers(1, "count", 9).then("day").then("day").answers(2, "on", 2);
        back.then("undo", 1).answers(5, "deep", 0).answers(0, "count", 1);
        back.then("undo", 0).answers(0, "deep", 0).answers(2, "on", 2).leaves(BAD, "undo", 1);
        // Full when it was kept: full again.
        Edge full = two.times(40, "day").then("keep", 0).then("undo", 0);
        full.then("on", 0).leaves(FULL, "day").answers(40, "count", 1).answers(40, "undo", 0);
        // Its DEEDS are its own, whatever was done in their places meanwhile.
        Edge meanwhile = two.then("fall", 0, 3).then("go", 0, 3).then("wind", 1).then("keep", 1).then("undo", 0);
        Edge own = meanwhile.then("go", 1, 4).then("wind", 2).then("fall", 4, 5).then("on", 1);
        own.answers(3, "count", 2).then("undo", 2).answers(8, "deep", 1).tells(1, 3, "person", 0, 4);
        own.then("undo", 1).answers(3, "deep", 0).answers(9, "deep", 2).tells(1, 0, "person", 0, 4);
        own.then("undo", 1).answers(0, "deep", 4).tells(1, 1, "person", 1, 4).then("undo", 0).answers(0, "deep", 0);
        // A TOWN that is told anew lets kept ones go; one that is refused does not.
        Edge kept = two.then("keep", 0).then("keep", 1).then("keep", 2);
        kept.then("town", 0).finds(NOTHING, "on", 0).finds(NOTHING, "on", 1).finds(NOTHING, "on", 2);
        kept.tried("town", 3).answers(0, "on", 2).then("text", 1, 5).tried("town", 1).answers(0, "on", 0);
    }
}
