/** Promises 2 to 7. */
public final class RowsTest {
    private static final int NOTHING = 1, BEYOND = 2, NOUGHT = 4, SIZE = 5;

    public static void main(String[] args) {
        Check check = new Check("RowsTest");
        rowsComeAndGo(check);
        placesAreLaidAndTold(check);
        placesAreCopied(check);
        meansAreCut(check);
        check.end();
    }

    private static void rowsComeAndGo(Check check) {
        AshGreetings x = new AshGreetings();
        for (int r = 0; r < 6; r++) {
            check.due("row", x.row(r, r), r);
        }
        check.due("count(7)", x.count(7), 6);
        check.due("row(0, 40)", x.row(0, 40), 40);
        check.due("row(0, 41)", x.row(0, 41), AshGreetings.BAD);
        check.due("row(-1, 1)", x.row(-1, 1), AshGreetings.BAD);
        check.due("row(6, 1)", x.row(6, 1), AshGreetings.BAD);
        check.due("row(6, -1)", x.row(6, -1), AshGreetings.BAD);
        check.finds(x, "row(0, -1)", 0, x.row(0, -1), SIZE);
        check.finds(x, "row(0, MIN)", 1, x.row(0, Integer.MIN_VALUE), SIZE);
        check.due("at(0, 39) still", x.at(0, 39), 1);
        check.due("tear(0)", x.tear(0), 1);
        check.due("count(7)", x.count(7), 5);
        check.finds(x, "tear(0) again", 0, x.tear(0), NOTHING);
        check.due("tear(6)", x.tear(6), AshGreetings.BAD);
        check.due("tear(-1)", x.tear(-1), AshGreetings.BAD);
    }

    private static void placesAreLaidAndTold(Check check) {
        AshGreetings x = new AshGreetings();
        check.finds(x, "lay in none", 0, x.lay(0, 0, 1), NOTHING);
        check.finds(x, "at in none", 1, x.at(0, 0), NOTHING);
        x.row(0, 3);
        check.told(x, "lay(0, 2, 7)", x.lay(0, 2, 7), 1, 0);
        check.told(x, "lay(0, 2, -5)", x.lay(0, 2, -5), 1, 7);
        check.told(x, "at(0, 2)", x.at(0, 2), 1, -5);
        check.told(x, "at(0, 1)", x.at(0, 1), 1, 0);
        x.lay(0, 0, Integer.MIN_VALUE);
        check.told(x, "at(0, 0)", x.at(0, 0), 1, Integer.MIN_VALUE);
        check.finds(x, "lay(0, 3, 1)", 0, x.lay(0, 3, 1), BEYOND);
        check.finds(x, "lay(0, -1, 1)", 1, x.lay(0, -1, 1), BEYOND);
        check.finds(x, "at(0, 3)", 2, x.at(0, 3), BEYOND);
        check.finds(x, "at(0, -1)", 3, x.at(0, -1), BEYOND);
        check.due("asked() behind refusals", x.asked(), Integer.MIN_VALUE);
        check.due("lay(6, 0, 0)", x.lay(6, 0, 0), AshGreetings.BAD);
        check.due("at(-1, 0)", x.at(-1, 0), AshGreetings.BAD);
        x.row(0, 3);
        check.told(x, "at(0, 2) of a new row", x.at(0, 2), 1, 0);
    }

    private static void placesAreCopied(Check check) {
        AshGreetings x = new AshGreetings();
        Check.fillRow(x, 0, 1, 2, 3, 4);
        Check.fillRow(x, 1, 9, 9);
        check.due("copy forward over itself", x.copy(0, 0, 0, 1, 3), 1);
        rowIs(check, x, 0, 1, 1, 2, 3);
        check.due("copy back over itself", x.copy(0, 1, 0, 0, 3), 1);
        rowIs(check, x, 0, 1, 2, 3, 3);
        check.due("copy to another", x.copy(0, 1, 1, 0, 2), 1);
        rowIs(check, x, 1, 2, 3);
        check.due("copy of none at both ends", x.copy(0, 4, 1, 2, 0), 1);
        check.finds(x, "copy(0, 3, 1, 0, 2)", 0, x.copy(0, 3, 1, 0, 2), BEYOND);
        check.finds(x, "copy(0, 0, 1, 1, 2)", 1, x.copy(0, 0, 1, 1, 2), BEYOND);
        check.finds(x, "copy(0, -1, 1, 0, 1)", 2, x.copy(0, -1, 1, 0, 1), BEYOND);
        check.finds(x, "copy(0, 0, 1, -1, 1)", 3, x.copy(0, 0, 1, -1, 1), BEYOND);
        int great = Integer.MAX_VALUE;
        check.finds(x, "copy of great numbers", 4, x.copy(0, great, 1, great, great), BEYOND);
        check.finds(x, "copy of none from far", 5, x.copy(0, 5, 1, 0, 0), BEYOND);
        check.finds(x, "copy of fewer than none", 0, x.copy(0, 0, 1, 0, -1), SIZE);
        check.finds(x, "SIZE ahead of NOTHING", 1, x.copy(2, 0, 1, 0, -1), SIZE);
        check.finds(x, "from none", 0, x.copy(2, 9, 1, 0, 1), NOTHING);
        check.finds(x, "to none", 1, x.copy(0, 9, 2, 0, 1), NOTHING);
        check.due("copy(6, ..)", x.copy(6, 0, 0, 0, -1), AshGreetings.BAD);
        check.due("copy(.., -1, ..)", x.copy(0, 0, -1, 0, 1), AshGreetings.BAD);
        rowIs(check, x, 0, 1, 2, 3, 3);
        rowIs(check, x, 1, 2, 3);
    }

    private static void rowIs(Check check, AshGreetings x, int r, int... values) {
        for (int i = 0; i < values.length; i++) {
            x.at(r, i);
            check.due("row " + r + ", place " + i, x.asked(), values[i]);
        }
    }

    private static void meansAreCut(Check check) {
        AshGreetings x = new AshGreetings();
        Check.fillRow(x, 0, 1, 2, 2);
        check.told(x, "mean of 1 2 2", x.mean(0), 1, 1);
        Check.fillRow(x, 0, -1, -2, -2);
        check.told(x, "mean below 0, cut", x.mean(0), 1, -1);
        Check.fillRow(x, 0, Integer.MAX_VALUE, Integer.MAX_VALUE);
        check.told(x, "mean of great numbers", x.mean(0), 1, Integer.MAX_VALUE);
        x.row(0, 0);
        check.finds(x, "mean of none", 0, x.mean(0), NOUGHT);
        check.finds(x, "mean of a missing row", 0, x.mean(1), NOTHING);
        check.due("mean(6)", x.mean(6), AshGreetings.BAD);
        check.due("mean(-1)", x.mean(-1), AshGreetings.BAD);
        check.due("asked() behind refusals", x.asked(), Integer.MAX_VALUE);
    }
}
