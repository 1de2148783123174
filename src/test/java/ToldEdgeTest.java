import java.util.ArrayList;
import java.util.List;

/** The boundary cases of promises 1, 35 and 38 to 41. */
public final class ToldEdgeTest {
    private static final int BAD = AshGreetings.BAD, NONE = AshGreetings.NONE;
    private static final int NOTHING = 1, BEYOND = 2, UNLIKE = 3, NOUGHT = 4, SIZE = 5;
    private static final int MIN = Integer.MIN_VALUE, MAX = Integer.MAX_VALUE;

    public static void main(String[] args) {
        Check check = new Check("ToldEdgeTest");
        aNewObject(check);
        askedByEach(check);
        askedStays(check);
        count(check);
        countAtEnds(check);
        finding(check);
        findings(check);
        digestOfNothing(check);
        digestOfRowsAndTexts(check);
        digestOfTowns(check);
        check.end();
    }

    private static void aNewObject(Check check) {
        Edge none = Edge.fresh(check);
        for (int r = 0; r < 6; r++) {
            none.finds(NOTHING, "at", r, 0);
        }
        for (int t = 0; t < 4; t++) {
            none.finds(NOTHING, "fault", t);
        }
        for (int k = 0; k < 3; k++) {
            none.finds(NOTHING, "on", k);
        }
        for (int what = 0; what < 12; what++) {
            none.leaves(0, "count", what);
        }
        none.leaves(0, "asked").leaves(0, "upper").leaves(1, "lower").leaves(0, "finding");
        // Another object has nothing of it.
        Edge.town(check, "00000 n5150 n5150").answers(2, "count", 0);
        none.leaves(0, "count", 0);
    }

    /** One call of each that tells by asked(), from a state in which something else was told. */
    private static void askedByEach(Check check) {
        Edge two = Edge.town(check, "30000 n5150 b2170").row(0, 40, 50).row(1, 11).then("at", 0, 0);
        two.leaves(40, "asked");
        two.tells(1, 50, "lay", 0, 1, 9).tells(1, 50, "at", 0, 1).tells(1, 45, "mean", 0);
        two.tells(1, 7, "person", 1, 3).tells(3, 2, "deep", 0).tells(3, 1, "meets");
        two.tells(4, 11, "later", 0, 1).tells(11, 0, "left", 1).tells(5, 10, "ash", 1).tells(NONE, 40, "best", 1);
        two.then("go", 0, 1).tells(0, 11, "best", 1).then("go", 0, 0).tells(2, 2, "test", 0, 1);
        Edge.town(check, "90000 n5150 n5130").then("deep", 1).tells(5, 8, "peace");
    }

    /** Refused, NONE, or a call that tells nothing by it: 40 stays. */
    private static void askedStays(Check check) {
        Edge two = Edge.town(check, "30000 n5150 b2170").row(0, 40, 50).row(1, 11).then("at", 0, 0);
        two.tells(NONE, 40, "peace").tells(NONE, 40, "test", 0, 0).tells(BAD, 40, "person", 2, 0);
        two.tells(BAD, 40, "deep", 5).tells(BAD, 40, "later", 0, 61).tells(BAD, 40, "left", 61);
        two.tells(BAD, 40, "ash", 0).tells(BAD, 40, "best", 0).tells(BAD, 40, "lay", 6, 0, 0);
        two.finds(BEYOND, "lay", 0, 2, 0).finds(BEYOND, "at", 0, 2).finds(NOTHING, "mean", 5);
        two.then("row", 5, 0).finds(NOUGHT, "mean", 5).tells(0, 40, "row", 5, 0).tells(1, 40, "tear", 0);
        two.tells(1, 40, "copy", 0, 0, 0, 1, 1).tells(0, 40, "text", 3, 0).tells(NONE, 40, "fault", 0);
        two.tells(2, 40, "town", 0).tells(1, 40, "mark", 1, 2).tells(11, 40, "day").tells(4, 40, "fall", 0, 1);
        two.tells(3, 40, "wind", 0).tells(0, 40, "go", 0, 1).tells(0, 40, "undo", 0).tells(0, 40, "keep", 0);
        two.then("keep", 0).tells(0, 40, "on", 0).tells(37, 40, "kinds", 0, 1).tells(1008, 40, "highs", 0, 1);
        two.tells(1, 40, "odds", 0, 0, 0).tells(1, 40, "mid", 0, 0).tells(2, 40, "count", 0);
        two.tells(0, 40, "finding").tells(0, 40, "findings", 1).tells(0, 40, "upper").tells(1, 40, "lower");
    }

    private static void count(Check check) {
        Edge two = Edge.town(check, "30000 n5150 b2170");
        for (int what : new int[] {-1, 12, MIN, MAX}) {
            two.leaves(BAD, "count", what);
            Edge.fresh(check).leaves(BAD, "count", what);
        }
        int[] due = {2, 0, 0, 12, 2, 0, 3, 0, 1, 0, 0, 1};
        for (int what = 0; what < 12; what++) {
            two.leaves(due[what], "count", what);
        }
    }

    private static void countAtEnds(Check check) {
        Edge most = Edge.town(check, "99999" + "p9090".repeat(7));
        most.leaves(7, "count", 0).leaves(63, "count", 3).leaves(127, "count", 4).leaves(0, "count", 5);
        most.leaves(45, "count", 6).leaves(7, "count", 10).leaves(0, "count", 11);
        Edge least = Edge.town(check, "00000" + "b9000".repeat(7));
        least.leaves(0, "count", 3).leaves(0, "count", 4).leaves(127, "count", 5).leaves(0, "count", 6);
        least.leaves(0, "count", 10).leaves(7, "count", 11);
        Edge mixed = Edge.town(check, "00000 n5000 d5000 s5000 h5000 p5000 b5000");
        mixed.leaves(2, "count", 10).leaves(2, "count", 11);
        Edge full = least.times(40, "day").then("keep", 0).then("keep", 1).then("keep", 2);
        full.leaves(40, "count", 1).leaves(40, "count", 2).leaves(3, "count", 9);
        Edge rows = Edge.fresh(check);
        for (int r = 0; r < 6; r++) {
            rows = rows.then("row", r, 0).leaves(r + 1, "count", 7);
        }
        rows.then("tear", 3).leaves(5, "count", 7);
        for (int t = 0; t < 4; t++) {
            rows = rows.then("text", t, 0).leaves(t + 1, "count", 8);
        }
        rows.then("text", 0, 60).leaves(4, "count", 8);
        // DEEDS that changed GRUDGES, depths, places.
        Edge two = Edge.town(check, "30000 n5150 b2170");
        two.then("wind", 0).leaves(0, "count", 4).leaves(0, "count", 6).then("day").leaves(13, "count", 3);
    }

    /** finding() is the latest one; a refusal of another sort and an answer leave it. */
    private static void finding(Check check) {
        Edge none = Edge.fresh(check);
        none.leaves(0, "finding").tried("row", 6, 0).leaves(0, "finding").tried("day").leaves(0, "finding");
        none.tried("tear", 0).leaves(NOTHING, "finding").then("row", 0, 1).leaves(NOTHING, "finding");
        Edge beyond = none.then("row", 0, 0).tried("tear", 1).tried("at", 0, 0);
        beyond.leaves(BEYOND, "finding").tried("at", 6, 0).leaves(BEYOND, "finding");
        beyond.tried("mean", 0).leaves(NOUGHT, "finding").tried("row", 0, -1).leaves(SIZE, "finding");
        beyond.tried("keep", 0).leaves(BEYOND, "finding");
        Edge.town(check, "00000 n5150 n5150").tried("mark", 0, 1).leaves(UNLIKE, "finding")
            .then("town", 0).leaves(UNLIKE, "finding").leaves(1, "findings", UNLIKE);
    }

    private static void findings(Check check) {
        Edge none = Edge.fresh(check);
        for (int f : new int[] {0, -1, 6, MIN, MAX}) {
            none.leaves(BAD, "findings", f);
        }
        for (int f = 1; f <= 5; f++) {
            none.leaves(0, "findings", f);
        }
        Edge some = none.then("row", 0, 0).tried("tear", 1).tried("at", 0, 0).tried("at", 0, 1).tried("mean", 0);
        some.leaves(1, "findings", NOTHING).leaves(2, "findings", BEYOND).leaves(0, "findings", UNLIKE);
        some.leaves(1, "findings", NOUGHT).leaves(0, "findings", SIZE);
        Edge many = none;
        for (int k = 0; k < 50; k++) {
            many = many.tried("on", 0).tried("row", 6, 0);
        }
        many.leaves(50, "findings", NOTHING);
    }

    private static List<Integer> all(int... values) {
        List<Integer> all = new ArrayList<>();
        for (int v : values) {
            all.add(v);
        }
        return all;
    }

    private static long digest(List<Integer> values) {
        long h = 17;
        for (int v : values) {
            h = 31 * h + v;
        }
        return h;
    }

    private static void digestOfNothing(Check check) {
        List<Integer> due = all(0, 0, 0, 0, 0, 0, 0, 0, 0, 0, 0, 0);
        due.addAll(all(0, 0, 0, 0, 0));
        due.addAll(all(-1, -1, -1, -1, -1, -1, -1, -1, -1, -1, -1, -1, -1));
        Edge none = Edge.fresh(check);
        none.leaves(digest(due), "digest");
        // What was asked or found is not in it.
        none.tried("at", 0, 0).tried("row", 9, 9).leaves(digest(due), "digest");
        none.row(0, 7).then("at", 0, 0).then("tear", 0).leaves(digest(due), "digest");
    }

    private static void digestOfRowsAndTexts(Check check) {
        // Empty is not missing; places of either sign; bytes are signed.
        List<Integer> due = all(0, 0, 0, 0, 0, 0, 0, 2, 2, 0, 0, 0, 0, 0, 0, 0, 0, -1, -1, -1);
        due.addAll(all(0, -1, -1, -1, -1, 3, MIN, MAX, -1));
        due.addAll(all(0, -1, -1, 4, 127, -128, -1, 32));
        Edge some = Edge.fresh(check).then("row", 0, 0).row(5, MIN, MAX, -1).then("text", 0, 0).then("text", 3, 4);
        some = some.then("put", 3, 0, 127).then("put", 3, 1, 128).then("put", 3, 2, 255);
        some.leaves(digest(due), "digest");
        // What lay behind the end of a longer one is not in it.
        Edge shorter = Edge.fresh(check).row(5, 1, 2, 3, 4, 5).row(5, MIN, MAX, -1).then("row", 0, 0);
        shorter = shorter.text(3, "abcdefg").then("text", 3, 4).then("text", 0, 0);
        shorter = shorter.then("put", 3, 0, -129).then("put", 3, 1, -128).then("put", 3, 2, -1);
        shorter.leaves(digest(due), "digest");
    }

    private static void digestOfTowns(Check check) {
        Edge two = Edge.town(check, "30000 n5150 b2070").then("keep", 0).then("day").then("keep", 2);
        two = two.then("fall", 4, 9).then("go", 1, 4).then("text", 0, 0);
        // Who is HID: 1 in STREET 4. KIND, HIGH, FOE, GRUDGE, STREET, HID, meets.
        List<Integer> due = all(2, 1, 3, 11, 2, 0, 12, 0, 1, 2, 0, 1);
        due.addAll(all(0, 5, 1, 4, 0, 0, 0));
        due.addAll(all(5, 2, -1, 7, 4, 1, 0));
        due.addAll(all(3, 0, 0, 0, 9));
        due.addAll(all(0, -1, 1));
        due.addAll(all(-1, -1, -1, -1, -1, -1));
        due.addAll(all(0, -1, -1, -1));
        two.leaves(digest(due), "digest");
    }
}
