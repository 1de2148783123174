/** The boundary cases of promises 32 to 34, 36 and 37. */
public final class ChancesEdgeTest {
    private static final int BAD = AshGreetings.BAD, FULL = AshGreetings.FULL, STATE = AshGreetings.STATE;
    private static final int MIN = Integer.MIN_VALUE, MAX = Integer.MAX_VALUE;
    private static final int LAST_SEED = 2147483646;
    private static final String TWO = "90000 n5150 n5000";

    public static void main(String[] args) {
        Check check = new Check("ChancesEdgeTest");
        odds(check);
        oddsRefused(check);
        mid(check);
        midRefused(check);
        lowestTerms(check);
        lots(check);
        lotsRefused(check);
        lotsThatCanNotBe(check);
        lotsOfOne(check);
        check.end();
    }

    private static void odds(Check check) {
        Edge two = Edge.town(check, TWO);
        // k or less: 4 if it is not cleared, 6 if it is.
        two.chances(0, 1, "odds", 3, 1, 4).chances(2, 3, "odds", 4, 1, 4).chances(2, 3, "odds", 5, 1, 4);
        two.chances(1, 1, "odds", 6, 1, 4).chances(1, 1, "odds", 63, 20, 12);
        two.chances(0, 1, "odds", 0, 4, 0).chances(1, 1, "odds", 0, 5, 0).chances(0, 1, "odds", 0, 20, 12);
        two.chances(1, 1, "odds", 4, 1, 0).chances(0, 1, "odds", 4, 1, 12);
        two.chances(11, 12, "odds", 4, 1, 1).chances(1, 12, "odds", 4, 1, 11);
        // Behind no DAYS it is as now.
        two.chances(0, 1, "odds", 4, 0, 6).chances(1, 1, "odds", 5, 0, 6);
        // Behind 20 DAYS, from an even DAY: a STUBBORN one's 9 is gone behind 17.
        Edge.town(check, "90000 s5190 n5000").chances(0, 1, "odds", 0, 16, 0).chances(1, 1, "odds", 0, 20, 0);
        // The most of all: 63.
        Edge most = Edge.town(check, "00000" + "n9190".repeat(7));
        most.chances(0, 1, "odds", 62, 0, 5).chances(1, 1, "odds", 63, 0, 5).chances(0, 1, "odds", 62, 20, 5);
        // Each STREET by itself: none, one, two, three of three cleared.
        Edge three = Edge.town(check, "90909 n5150 n5000 n5152 n5002 n5154 n5004");
        three.chances(343, 1728, "odds", 12, 1, 5).chances(343, 1728, "odds", 13, 1, 5);
        three.chances(539, 864, "odds", 14, 1, 5).chances(1603, 1728, "odds", 16, 1, 5);
        three.chances(1, 1, "odds", 18, 1, 5).chances(0, 1, "odds", 11, 1, 5);
        // Cleared it is 0 deep: one who is 1 high is SEEN, one who is 0 high is HID yet.
        Edge.town(check, "90000 n5150 n1000").chances(2, 3, "odds", 5, 1, 4);
        Edge.town(check, "90000 n5150 n0000").chances(1, 1, "odds", 4, 1, 12);
        // One behind another, each for itself.
        two.then("odds", 63, 20, 7).chances(2, 3, "odds", 4, 1, 4).then("mid", 5, 7).chances(25, 6, "mid", 1, 1);
        // A STREET that is clear is no less so.
        Edge.town(check, "00000 n5150 n5000").chances(1, 1, "odds", 6, 1, 7).chances(0, 1, "odds", 5, 1, 7);
    }

    private static void oddsRefused(Check check) {
        Edge two = Edge.town(check, TWO).then("odds", 0, 5, 1);
        two.answers(11, "upper").answers(12, "lower");
        Edge none = Edge.fresh(check);
        for (Edge edge : new Edge[] {two, none}) {
            for (int k : new int[] {-1, 64, MIN, MAX}) {
                edge.leaves(BAD, "odds", k, 0, 0);
            }
            for (int n : new int[] {-1, 21, MIN, MAX}) {
                edge.leaves(BAD, "odds", 0, n, 0);
            }
            for (int p : new int[] {-1, 13, MIN, MAX}) {
                edge.leaves(BAD, "odds", 0, 0, p);
            }
        }
        none.leaves(STATE, "odds", 0, 0, 0).leaves(STATE, "odds", 63, 20, 12);
    }

    private static void mid(Check check) {
        Edge two = Edge.town(check, TWO);
        two.chances(4, 1, "mid", 1, 0).chances(6, 1, "mid", 1, 12).chances(5, 1, "mid", 1, 6);
        two.chances(25, 6, "mid", 1, 1).chances(5, 1, "mid", 0, 7).chances(0, 1, "mid", 20, 0);
        two.chances(9, 1, "mid", 20, 12).chances(3, 4, "mid", 20, 1);
        Edge three = Edge.town(check, "90909 n5150 n5000 n5152 n5002 n5154 n5004");
        three.chances(29, 2, "mid", 1, 5).chances(12, 1, "mid", 1, 0).chances(18, 1, "mid", 1, 12);
        Edge.town(check, "00000" + "n9190".repeat(7)).chances(63, 1, "mid", 20, 5);
        Edge.town(check, "00000 n5000 n5000").chances(0, 1, "mid", 20, 5);
        // Aside: nothing is cleared truly.
        two.then("mid", 5, 12).answers(9, "count", 6).answers(0, "count", 2).answers(0, "count", 1);
    }

    private static void midRefused(Check check) {
        Edge two = Edge.town(check, TWO).then("mid", 1, 1);
        two.answers(25, "upper").answers(6, "lower");
        Edge none = Edge.fresh(check);
        for (Edge edge : new Edge[] {two, none}) {
            for (int n : new int[] {-1, 21, MIN, MAX}) {
                edge.leaves(BAD, "mid", n, 0);
            }
            for (int p : new int[] {-1, 13, MIN, MAX}) {
                edge.leaves(BAD, "mid", 0, p);
            }
        }
        none.leaves(STATE, "mid", 0, 0).leaves(STATE, "mid", 20, 12);
    }

    /** For each p of 12: what both numbers share is out. */
    private static void lowestTerms(Check check) {
        Edge.fresh(check).answers(0, "upper").answers(1, "lower");
        int[][] due = {{1, 1}, {11, 12}, {5, 6}, {3, 4}, {2, 3}, {7, 12}, {1, 2}, {5, 12}, {1, 3}, {1, 4},
            {1, 6}, {1, 12}, {0, 1}};
        for (int p = 0; p <= 12; p++) {
            Edge.town(check, TWO).chances(due[p][0], due[p][1], "odds", 4, 1, p);
        }
        // Other calls do not change what was told last.
        Edge after = Edge.town(check, TWO).then("odds", 4, 1, 5).then("day").then("duel", 1).then("town", 0);
        after.answers(7, "upper").answers(12, "lower");
    }

    private static void lots(Check check) {
        Edge two = Edge.town(check, TWO);
        for (int seed : new int[] {1, LAST_SEED}) {
            two.then("lots", 1, seed).answers(1, "count", 2);
            two.then("lots", 20, seed).answers(20, "count", 2).answers(20, "undo", 0);
            two.then("lots", 20, seed).then("lots", 20, seed).answers(40, "count", 2).leaves(FULL, "lots", 1, 1);
        }
        // Exactly 40 is not too many.
        Edge some = two.times(39, "day");
        some.leaves(FULL, "lots", 2, 1).leaves(FULL, "lots", 20, 1).then("lots", 1, 1).answers(40, "count", 2);
        two.times(20, "day").then("lots", 20, 5).answers(40, "count", 2);
        two.times(21, "day").leaves(FULL, "lots", 20, 5).then("lots", 19, 5).answers(40, "count", 2);
        // Of seed 1 the first number is 48271: STREET 3 by its 6033 by 8, and it modulo 8 is 7: a DAY.
        two.answers(4, "lots", 1, 1).then("lots", 1, 1).answers(1, "count", 1);
        // asked(), upper(), lower() stay.
        two.then("deep", 0).tells(4, 2, "lots", 1, 1);
    }

    private static void lotsRefused(Check check) {
        Edge two = Edge.town(check, TWO);
        Edge full = two.times(40, "day");
        Edge none = Edge.fresh(check);
        for (Edge edge : new Edge[] {two, full, none}) {
            for (int n : new int[] {0, -1, 21, MIN, MAX}) {
                edge.leaves(BAD, "lots", n, 1).leaves(BAD, "lots", n, 0);
            }
            for (int seed : new int[] {0, -1, MIN, MAX}) {
                edge.leaves(BAD, "lots", 1, seed).leaves(BAD, "lots", 20, seed);
            }
        }
        none.leaves(STATE, "lots", 1, 1).leaves(STATE, "lots", 20, LAST_SEED);
        full.leaves(FULL, "lots", 1, 1).leaves(FULL, "lots", 20, LAST_SEED);
    }

    private static long first(int seed) {
        return seed * 48271L % 2147483647L;
    }

    /** Wind where it is clear, ash where it is 9 deep, one who is there: a DEED of nothing. */
    private static void lotsThatCanNotBe(Check check) {
        for (int seed = 1; seed <= 200; seed++) {
            int what = (int) (first(seed) % 8);
            int street = (int) (first(seed) / 8 % 5);
            if (what <= 3) {
                String deep = what == 0 ? "00000" : "99999";
                Edge two = Edge.town(check, deep + "n525" + street + "n515" + street + "n505" + street);
                two.answers(15, "lots", 1, seed);
                Edge behind = two.then("lots", 1, seed);
                behind.answers(1, "count", 2).answers(0, "count", 1).answers(what == 0 ? 0 : 45, "count", 6);
                behind.tells(what == 0 ? 0 : 9, 3, "deep", street).answers(1, "undo", 0).leaves(0, "undo", 1);
            }
        }
    }

    /** What can be, by the first number of a seed. */
    private static void lotsOfOne(Check check) {
        for (int seed = LAST_SEED; seed > LAST_SEED - 200; seed--) {
            int what = (int) (first(seed) % 8);
            int street = (int) (first(seed) / 8 % 5);
            int who = (int) (first(seed) / 64 % 3);
            int other = (street + 1) % 5;
            // The least that wind clears, the least and the most on which ash falls.
            int lay = what == 0 ? 1 : what == 1 ? 0 : 8;
            String said = ("" + lay).repeat(5) + "n525" + other + "n515" + other + "n505" + other;
            Edge behind = Edge.town(check, said).then("lots", 1, seed).answers(1, "count", 2);
            behind.answers(what > 3 ? 1 : 0, "count", 1);
            int deep = what == 0 ? 0 : what == 1 || what == 2 ? lay + 1 : lay;
            behind.tells(deep, what == 3 ? 1 : 0, "deep", street);
            for (int i = 0; i < 3; i++) {
                behind.tells(1, what == 3 && i == who ? street : other, "person", i, 4);
            }
        }
    }
}
