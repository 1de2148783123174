/** Promises 22 to 25. */
public final class AheadTest {
    public static void main(String[] args) {
        Check check = new Check("AheadTest");
        meetingsAreTold(check);
        grudgesOfLater(check);
        peaceIsTold(check);
        whatIsLeft(check);
        nothingIsDone(check);
        check.end();
    }

    private static void meetingsAreTold(Check check) {
        AshGreetings x = new AshGreetings();
        check.told(x, "meets() without people", x.meets(), 0, 0);
        // 0 is hid, 1 is not, the priest 2 forgives all the same: 0 -> 1, 1 -> 2, 2 -> 1.
        x = Check.townOf("50000 n5110 n6110 p6210");
        check.told(x, "meets()", x.meets(), 7, 1);
        x.wind(0);
        check.told(x, "meets() in the clear", x.meets(), 7, 1);
        x.fall(0, 6);
        check.told(x, "meets() in deep ash", x.meets(), 7, 3);
        x = Check.townOf("90000 s5110 s5110");
        x.day();
        check.told(x, "a stubborn one forgives by nothing", x.meets(), 3, 2);
    }

    private static void grudgesOfLater(Check check) {
        AshGreetings x = Check.townOf("50000 s5190 n6140");
        // 0's foe is not hid: angered. 1's foe is hid: forgives.
        check.told(x, "later(1, 0)", x.later(1, 0), 4, 13);
        check.told(x, "later(1, 3)", x.later(1, 3), 1, 10);
        check.told(x, "later(0, 3)", x.later(0, 3), 9, 10);
        check.told(x, "later(1, 60)", x.later(1, 60), 0, 9);
        check.due("later(1, 61)", x.later(1, 61), AshGreetings.BAD);
        check.due("later(1, -1)", x.later(1, -1), AshGreetings.BAD);
        check.due("later(2, 0)", x.later(2, 0), AshGreetings.BAD);
        check.due("later(-1, 0)", x.later(-1, 0), AshGreetings.BAD);
        check.due("later(0, 0) without people", new AshGreetings().later(0, 0), AshGreetings.BAD);
        x = Check.townOf("90000 s5150 n5000");
        check.told(x, "two days from an even one", x.later(0, 2), 4, 4);
        x.day();
        check.told(x, "two days from an odd one", x.later(0, 2), 3, 3);
        check.told(x, "one day from an odd one", x.later(0, 1), 4, 4);
    }

    private static void peaceIsTold(Check check) {
        check.due("peace() without people", new AshGreetings().peace(), AshGreetings.STATE);
        AshGreetings x = Check.townOf("90000 n5130 d5190");
        check.told(x, "peace()", x.peace(), 5, 12);
        x = Check.townOf("90000 n5100 d5100");
        check.told(x, "peace() now", x.peace(), 0, 0);
        // The stubborn one needs the days 0, 2, .. 16.
        x = Check.townOf("90000 s5190 n5100");
        check.told(x, "peace() of a stubborn one", x.peace(), 17, 9);
        x = Check.townOf("00000 n5110 n5110");
        x.deep(0);
        check.told(x, "peace() never", x.peace(), AshGreetings.NONE, 2);
    }

    private static void whatIsLeft(Check check) {
        AshGreetings x = Check.townOf("90000 n5130 d5290 n5011");
        check.told(x, "left(0)", x.left(0), 13, 0);
        check.told(x, "left(2)", x.left(2), 7, 0);
        check.told(x, "left(3)", x.left(3), 4, 1);
        check.told(x, "left(60)", x.left(60), 1, 2);
        check.due("left(61)", x.left(61), AshGreetings.BAD);
        check.due("left(-1)", x.left(-1), AshGreetings.BAD);
        check.due("left(0) without people", new AshGreetings().left(0), AshGreetings.STATE);
        check.due("left(61) without people", new AshGreetings().left(61), AshGreetings.BAD);
    }

    private static void nothingIsDone(Check check) {
        AshGreetings x = Check.townOf("31042 n4150 d6140 s5180 h7130 p9151 b2191 n3030");
        Check.fillRow(x, 0, 30, 31);
        x.fall(4, 2);
        x.day();
        long before = x.digest();
        x.meets();
        x.later(0, 40);
        x.peace();
        x.left(33);
        x.ash(21);
        x.best(12);
        x.kinds(0, 0);
        x.highs(1, 0);
        x.test(2, 0);
        x.duel(3);
        x.odds(3, 4, 5);
        x.mid(6, 7);
        check.due("digest() behind what is thought aside", x.digest(), before);
        check.due("undo(1)", x.undo(1), 1);
        check.due("undo(0)", x.undo(0), 1);
    }
}
