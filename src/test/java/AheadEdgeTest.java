/** The boundary cases of promises 22 to 27. */
public final class AheadEdgeTest {
    private static final int BAD = AshGreetings.BAD, STATE = AshGreetings.STATE, NONE = AshGreetings.NONE;
    private static final int MIN = Integer.MIN_VALUE, MAX = Integer.MAX_VALUE;
    private static final String HID = "90000 n5130 d5290 n5011";
    private static final String SEVEN = "31042 n4150 d6140 s5180 h7130 p9151 b2191 n3030";

    public static void main(String[] args) {
        Check check = new Check("AheadEdgeTest");
        meets(check);
        later(check);
        peace(check);
        left(check);
        ash(check);
        ashOfTies(check);
        best(check);
        bestOfTies(check);
        asideWhenFull(check);
        check.end();
    }

    private static void meets(Check check) {
        // Without PEOPLE nobody meets, which is no refusal: it tells 0.
        Edge.fresh(check).tells(0, 0, "meets").row(0, 7).then("at", 0, 0).tells(0, 0, "meets");
        Edge.town(check, "00000 n5150 n5150").tells(3, 0, "meets");
        Edge.town(check, "00000 p5150 n5150").tells(3, 1, "meets");
        Edge.town(check, "99999 n5150 n5150").tells(3, 2, "meets");
        Edge.town(check, "99999 n5150 n5050").tells(1, 1, "meets");
        Edge.town(check, "99999 n5050 n5050").tells(0, 0, "meets");
        Edge.town(check, "99999" + "n5150".repeat(7)).tells(127, 7, "meets");
        // FORGIVING by nothing is FORGIVING: a STUBBORN one on an odd DAY, one without GRUDGE.
        Edge.town(check, "90000 s5150 b5150").then("day").tells(3, 2, "meets");
        Edge.town(check, "90000 n5100 n5100").tells(3, 2, "meets");
        // Being ANGERED by nothing is not.
        Edge.town(check, "00000 b5150 n5190").tells(3, 0, "meets");
    }

    private static void later(Check check) {
        Edge three = Edge.town(check, HID);
        three.tells(3, 13, "later", 0, 0).tells(2, 10, "later", 0, 1).tells(0, 1, "later", 0, 60);
        three.tells(1, 13, "later", 2, 0).tells(1, 1, "later", 2, 60).tells(1, 2, "later", 1, 4);
        for (int n : new int[] {-1, 61, MIN, MAX}) {
            three.leaves(BAD, "later", 0, n).leaves(BAD, "later", 3, n);
        }
        for (int i : new int[] {-1, 3, 7, MIN, MAX}) {
            three.leaves(BAD, "later", i, 0).leaves(BAD, "later", i, 60);
        }
        Edge.fresh(check).leaves(BAD, "later", 0, 0).leaves(BAD, "later", 0, 61);
        // From 0 to 9 at most, down to 0 at least; the number of the DAY goes on from now.
        Edge.town(check, "00000 n5100 n5000").tells(8, 8, "later", 0, 8).tells(9, 9, "later", 0, 9)
            .tells(9, 9, "later", 0, 10);
        Edge stubborn = Edge.town(check, "90000 s5190 n5000");
        stubborn.tells(8, 8, "later", 0, 1).tells(8, 8, "later", 0, 2).tells(7, 7, "later", 0, 3);
        stubborn.then("day").tells(8, 8, "later", 0, 1).tells(7, 7, "later", 0, 2);
        stubborn.tells(1, 1, "later", 0, 16).tells(0, 0, "later", 0, 17);
        Edge.town(check, "90000 d5190 n5000").tells(1, 1, "later", 0, 4).tells(0, 0, "later", 0, 5);
    }

    private static void peace(Check check) {
        Edge.fresh(check).leaves(STATE, "peace");
        Edge.town(check, "00000 n5000 n5000").tells(0, 0, "peace");
        Edge.town(check, "90000 n5110 n5010").leaves(NONE, "peace");
        Edge.town(check, "90000 n5110 n5000").tells(1, 1, "peace");
        Edge.town(check, "90000 n5190 n5190").tells(9, 18, "peace");
        // The longest: a STUBBORN one's 9, from an odd DAY on.
        Edge.town(check, "90000 s5190 n5000").tells(17, 9, "peace");
        Edge.town(check, "90000 s5191 n5000").then("day").then("go", 0, 0).tells(18, 9, "peace");
        // Now at 0, but not to stay so: it is 0 first now. One who does not meet never FORGIVES.
        Edge.town(check, "00000 n5100 n5100").tells(0, 0, "peace").then("day").leaves(NONE, "peace");
        Edge.town(check, "90000 n5010 n5000").leaves(NONE, "peace");
        // A BROTHER without GRUDGE is not ANGERED to one; a PRIEST FORGIVES.
        Edge.town(check, "00000 b5100 p5130").tells(2, 3, "peace");
        Edge.town(check, "00000 b5110 p5130").leaves(NONE, "peace");
        // NONE leaves what was asked.
        Edge.town(check, "00000 n5150 n5150").then("deep", 0).tells(NONE, 2, "peace");
    }

    private static void left(Check check) {
        Edge three = Edge.town(check, HID);
        three.tells(13, 0, "left", 0).tells(10, 0, "left", 1).tells(4, 1, "left", 3).tells(1, 2, "left", 60);
        for (int n : new int[] {-1, 61, MIN, MAX}) {
            three.leaves(BAD, "left", n);
            // BAD is ahead of STATE.
            Edge.fresh(check).leaves(BAD, "left", n);
        }
        Edge.fresh(check).leaves(STATE, "left", 0).leaves(STATE, "left", 60);
        Edge.town(check, "00000" + "n9190".repeat(7)).tells(63, 0, "left", 60);
        Edge.town(check, "99999" + "n9190".repeat(7)).tells(0, 7, "left", 9).tells(7, 0, "left", 8);
    }

    private static void ash(Check check) {
        Edge two = Edge.town(check, "00000 n5130 n7130");
        for (int n : new int[] {0, -1, 41, MIN, MAX}) {
            two.leaves(BAD, "ash", n);
            Edge.fresh(check).leaves(BAD, "ash", n);
        }
        Edge.fresh(check).leaves(STATE, "ash", 1).leaves(STATE, "ash", 40);
        two.tells(7, 4, "ash", 1).tells(7, 0, "ash", 40).tells(7, 2, "ash", 2);
        // Aside: it lies as it lay.
        two.then("ash", 5).answers(0, "count", 6).answers(0, "count", 2);
    }

    private static void ashOfTies(Check check) {
        // The least of those that are as good: none, all, from a height on.
        Edge.town(check, "99999 n5050 n7050").tells(0, 10, "ash", 40);
        Edge.town(check, "99999 n0150 n0150").tells(0, 8, "ash", 1);
        Edge.town(check, "00000 n1150 n1150").tells(1, 8, "ash", 1);
        Edge.town(check, "00000 n9150 n9150").tells(9, 8, "ash", 1);
        Edge.town(check, "00000 h9150 h9150").tells(7, 8, "ash", 1);
        Edge.town(check, "00000 h2150 h1150").tells(0, 8, "ash", 1);
        // In all STREETS alike: two pairs, the higher one in the last STREET.
        Edge.town(check, "90000 n3150 n3350 n8154 n8354").tells(8, 16, "ash", 1);
        // Two FORGIVE at 3, two are no better off at any height.
        Edge.town(check, "99999 n3150 n3350 n8054 n8054").tells(3, 18, "ash", 1);
    }

    private static void best(Check check) {
        Edge two = Edge.town(check, "00000 n5130 n5130");
        for (int n : new int[] {0, -1, 41, MIN, MAX}) {
            two.leaves(BAD, "best", n);
            Edge.fresh(check).leaves(BAD, "best", n);
        }
        Edge.fresh(check).leaves(STATE, "best", 1).leaves(STATE, "best", 40);
        two.tells(1, 6, "best", 1).tells(1, 6, "best", 40);
        // None makes it less: NONE, though some make it no more. asked() stays.
        Edge.town(check, "00000 n5030 n5030").then("deep", 0).tells(NONE, 2, "best", 1).leaves(NONE, "best", 40);
        Edge.town(check, "90000 n5130 n5130").then("deep", 0).tells(NONE, 2, "best", 1);
        Edge.town(check, "00000 n5100 n5001").leaves(NONE, "best", 40);
        // It would be less behind few DAYS; behind many all have 0 anyhow.
        Edge.town(check, "90000 n5190 n5000").leaves(NONE, "best", 9).leaves(NONE, "best", 40);
        // Aside: nobody has gone.
        two.then("best", 5).tells(1, 0, "person", 0, 4).answers(0, "count", 2);
    }

    private static void bestOfTies(Check check) {
        // The least number: the first one, to the first STREET that is not hers.
        Edge.town(check, "00000 n5131 n5131").tells(0, 6, "best", 1);
        Edge.town(check, "00000 n5134 n5134").tells(0, 6, "best", 40);
        // To the last STREET; the last one of seven; to STREET 0 by one of number 0: 0.
        Edge.town(check, "00009 n5130 n5134").tells(4, 4, "best", 1);
        Edge.town(check, "90000 n5131 n5130").tells(0, 4, "best", 1);
        Edge.town(check, "00009 n5004 n5004 n5004 n5004 n5004 n5004 n5690").tells(64, 8, "best", 1);
        // There are five STREETS: wherever 0 went, one would be ANGERED by it; so 1 goes, to any.
        Edge.town(check, "00000 n9100 n9000 n9401 n9302 n9203 n9104").tells(11, 0, "best", 1);
        // By going away from a STREET one can bring two others together.
        Edge.town(check, "90000 n5230 n5000 n5000 n5000").tells(11, 2, "best", 1);
    }

    /** What is thought aside is none of the 40 DEEDS. */
    private static void asideWhenFull(Check check) {
        Edge full = Edge.town(check, SEVEN).row(0, 9).times(40, "day").then("keep", 1);
        full.answers(40, "count", 2).answers(40, "count", 1);
        String[] calls = {"ash", "best", "left", "duel"};
        for (String call : calls) {
            full.then("meets").tried(call, 1).answers(40, "count", 2).answers(40, "undo", 0);
        }
        full.tried("later", 0, 60).answers(40, "count", 1);
        full.tried("peace").answers(40, "count", 1);
        // Beyond DAY 99, too: DAY 40 and 60 more, 120 more.
        full.then("later", 5, 60).then("left", 60).answers(40, "count", 1);
    }
}
