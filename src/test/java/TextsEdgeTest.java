/** The boundary cases of promises 8 to 11 and of what a TOWN's TEXT may say. */
public final class TextsEdgeTest {
    private static final int BAD = AshGreetings.BAD, STATE = AshGreetings.STATE, NONE = AshGreetings.NONE;
    private static final int NOTHING = 1, BEYOND = 2, SIZE = 5;
    private static final int MIN = Integer.MIN_VALUE, MAX = Integer.MAX_VALUE;
    private static final int[] NO_STRIPS = {-1, 4, MIN, MAX};
    private static final String SEVEN = "99999n9994d9994s9994h9994p9994b9994n9994";

    public static void main(String[] args) {
        Check check = new Check("TextsEdgeTest");
        text(check);
        put(check);
        faultOfEachSign(check);
        faultOfEnds(check);
        faultOfBlanks(check);
        faultOfAnEighth(check);
        faultRefused(check);
        town(check);
        townRefused(check);
        check.end();
    }

    private static void text(Check check) {
        Edge none = Edge.fresh(check);
        for (int t = 0; t < 4; t++) {
            none.answers(0, "text", t, 0).answers(60, "text", t, 60).leaves(BAD, "text", t, 61);
            none.finds(SIZE, "text", t, -1).then("text", t, 0).answers(1, "count", 8);
        }
        none.leaves(BAD, "text", 0, MAX).finds(SIZE, "text", 0, MIN);
        for (int t : NO_STRIPS) {
            none.leaves(BAD, "text", t, 0).leaves(BAD, "text", t, 61).leaves(BAD, "text", t, -1);
        }
        none.then("text", 3, 60).answers(1032, "put", 3, 0, 0).answers(1032, "put", 3, 59, 0);
        Edge old = none.text(0, "abc");
        old.leaves(BAD, "text", 0, 61).finds(SIZE, "text", 0, -1);
        old.then("text", 0, 3).answers(1032, "put", 0, 2, 0);
        old.then("text", 0, 1).then("text", 0, 3).answers(1032, "put", 0, 2, 0);
        old.then("text", 0, 2).finds(BEYOND, "put", 0, 2, 0);
        old.then("text", 1, 3).answers(1099, "put", 0, 2, 0);
    }

    private static void put(Check check) {
        int[][] cuts = {{0, 0}, {127, 127}, {128, -128}, {255, -1}, {256, 0}, {257, 1}, {-1, -1},
            {-128, -128}, {-129, 127}, {MAX, -1}, {MIN, 0}, {366, 110}};
        Edge two = Edge.fresh(check).then("text", 0, 2);
        for (int[] cut : cuts) {
            two.then("put", 0, 1, cut[0]).answers(1000 + cut[1], "put", 0, 1, 0);
            two.then("put", 0, 1, cut[0]).answers(1032, "put", 0, 0, 0);
        }
        for (int i : new int[] {2, -1, 60, MIN, MAX}) {
            two.finds(BEYOND, "put", 0, i, 65).finds(NOTHING, "put", 1, i, 65);
        }
        two.finds(NOTHING, "put", 3, 0, 65).then("text", 0, 0).finds(BEYOND, "put", 0, 0, 65);
        two.then("text", 3, 60).answers(1032, "put", 3, 59, 65).finds(BEYOND, "put", 3, 60, 65);
        for (int t : NO_STRIPS) {
            two.leaves(BAD, "put", t, 0, 65).leaves(BAD, "put", t, -1, 65);
        }
    }

    /** Each of all bytes at each place of a TEXT that is right otherwise. */
    private static void faultOfEachSign(Check check) {
        String said = "01234n5673s9124";
        for (int place = 0; place < 15; place++) {
            for (int sign = 0; sign < 256; sign++) {
                if (sign != ' ') {
                    boolean isRight = isRight(place, (char) sign);
                    String other = said.substring(0, place) + (char) sign + said.substring(place + 1);
                    faultIs(check, other, isRight ? NONE : place);
                }
            }
        }
    }

    private static boolean isRight(int place, char sign) {
        if (place == 5 || place == 10) {
            return "ndshpb".indexOf(sign) >= 0;
        }
        return sign >= '0' && sign <= (place == 9 || place == 14 ? '4' : '9');
    }

    /** The end comes too early, but for whole PEOPLE, two or more. */
    private static void faultOfEnds(Check check) {
        for (int n = 0; n <= 40; n++) {
            boolean isWhole = n >= 15 && n % 5 == 0;
            faultIs(check, SEVEN.substring(0, n), isWhole ? NONE : n);
        }
        faultIs(check, "00000", 5);
        faultIs(check, "00000   ", 8);
        faultIs(check, "00000 n0000", 11);
        faultIs(check, "00000 n0000  ", 13);
        faultIs(check, "00000 n0000 n000", 16);
    }

    private static void faultOfBlanks(Check check) {
        for (int n : new int[] {0, 1, 2, 59, 60}) {
            faultIs(check, " ".repeat(n), n);
        }
        faultIs(check, " ".repeat(45) + "00000n0000n0000", NONE);
        faultIs(check, "00000n0000n0000" + " ".repeat(45), NONE);
        faultIs(check, "00000" + " ".repeat(45) + "n0000n0000", NONE);
        faultIs(check, "00000n0000" + " ".repeat(45) + "n0000", NONE);
        faultIs(check, " 00000 n0000 n0000 ", NONE);
        // None within items.
        String said = "01234n5673s9124";
        for (int place = 1; place < 15; place++) {
            String other = said.substring(0, place) + " " + said.substring(place);
            faultIs(check, other, place % 5 == 0 ? NONE : place);
        }
        // Nothing else is a blank.
        for (char sign : new char[] {0, 9, 10, 13, 31, 33, 95, 160}) {
            faultIs(check, sign + "00000n0000n0000", 0);
            faultIs(check, "00000n0000n0000" + sign, 15);
            faultIs(check, "00000n0000n0000 " + sign, 16);
        }
        // A blank instead of a letter, or of the first figure.
        faultIs(check, "00000 0000n0000", 6);
        faultIs(check, " 0000n0000n0000", 5);
    }

    private static void faultOfAnEighth(Check check) {
        faultIs(check, SEVEN, NONE);
        faultIs(check, SEVEN + "n0000", 40);
        faultIs(check, SEVEN + "n", 40);
        faultIs(check, SEVEN + "0", 40);
        faultIs(check, SEVEN + "?", 40);
        faultIs(check, SEVEN + "   n0000", 43);
        faultIs(check, SEVEN + " ".repeat(20), NONE);
        faultIs(check, SEVEN + " ".repeat(19) + "n", 59);
        faultIs(check, "00000" + "n0000".repeat(11), 40);
        faultIs(check, "00000 " + "n0000 ".repeat(9), 48);
    }

    private static void faultIs(Check check, String said, int want) {
        Edge.fresh(check).text(0, said).leaves(want, "fault", 0);
    }

    private static void faultRefused(Check check) {
        Edge none = Edge.fresh(check);
        for (int t = 0; t < 4; t++) {
            none.finds(NOTHING, "fault", t).then("text", t, 0).leaves(0, "fault", t);
        }
        for (int t : NO_STRIPS) {
            none.leaves(BAD, "fault", t);
        }
        none.text(3, SEVEN).leaves(NONE, "fault", 3).finds(NOTHING, "fault", 0);
    }

    private static void town(Check check) {
        for (int people = 2; people <= 7; people++) {
            Edge said = Edge.fresh(check).text(people % 4, SEVEN.substring(0, 5 + 5 * people));
            said.answers(people, "town", people % 4);
            said.then("town", people % 4).answers(people, "count", 0).answers(9 * people, "count", 3);
        }
        Edge.fresh(check).text(0, " 00000 n0000 n0000 ").answers(2, "town", 0);
        // Anew: as told at first, no DEEDS; kept TOWNS go.
        Edge old = Edge.town(check, "10000 n5110 n5110").then("fall", 0, 2).then("go", 0, 3).then("day");
        Edge kept = old.then("keep", 0).then("keep", 1).then("keep", 2);
        kept.answers(3, "count", 9).then("town", 0).answers(0, "count", 9).finds(NOTHING, "on", 0);
        Edge anew = kept.then("town", 0);
        anew.answers(0, "count", 1).answers(0, "count", 2).answers(2, "count", 3).tells(1, 2, "deep", 0);
        anew.leaves(0, "undo", 0).leaves(BAD, "undo", 1).finds(NOTHING, "on", 1).finds(NOTHING, "on", 2);
        // Fewer PEOPLE than before.
        Edge fewer = Edge.town(check, SEVEN).text(1, "00000n0000n0000").then("town", 1);
        fewer.answers(2, "count", 0).leaves(BAD, "person", 2, 0).answers(0, "count", 3);
        // The TEXT is read once: what comes to it later does not come to the TOWN.
        old.then("put", 0, 0, '9').answers(3, "deep", 0).then("undo", 0).answers(1, "deep", 0);
        old.then("put", 0, 0, '9').then("town", 0).answers(9, "deep", 0);
        old.then("text", 0, 0).answers(2, "count", 0);
        // ROWS, asked() and the like stay.
        Edge rows = Edge.fresh(check).row(2, 7).then("at", 2, 0).text(0, SEVEN);
        rows.tells(7, 7, "town", 0).then("town", 0).tells(1, 7, "at", 2, 0);
    }

    private static void townRefused(Check check) {
        Edge old = Edge.town(check, "10000 n5110 n5110").then("fall", 0, 2).then("day").then("keep", 1);
        for (int t : NO_STRIPS) {
            old.leaves(BAD, "town", t);
        }
        for (int t = 1; t < 4; t++) {
            old.finds(NOTHING, "town", t).then("text", t, 0).leaves(STATE, "town", t);
            old.text(t, "10000 n5110").leaves(STATE, "town", t);
            old.text(t, "90000 d9990 d9990 d999").leaves(STATE, "town", t);
            old.text(t, "90000 d9990 d9990 d9995").leaves(STATE, "town", t);
            old.text(t, SEVEN + "n0000").leaves(STATE, "town", t);
        }
        Edge none = Edge.fresh(check);
        none.finds(NOTHING, "town", 0).then("text", 0, 60).leaves(STATE, "town", 0);
    }
}
