/** Promises 26, 27 and 31. */
public final class PlansTest {
    public static void main(String[] args) {
        Check check = new Check("PlansTest");
        bestAsh(check);
        bestMove(check);
        duels(check);
        check.end();
    }

    private static void bestAsh(Check check) {
        AshGreetings x = Check.townOf("00000 n5130 n7130");
        // From 7 on both are hid; at 5 and 6 one forgives while the other is angered.
        check.told(x, "ash(1)", x.ash(1), 7, 4);
        check.told(x, "ash(40)", x.ash(40), 7, 0);
        // Whoever is apart has the same grudge however deep it lies: the least depth.
        x = Check.townOf("99999 n5130 n7131");
        check.told(x, "ash(3) apart", x.ash(3), 0, 6);
        // As deep as it may be: nobody else may lie in between.
        x = Check.townOf("00000 n9110 h9110");
        check.told(x, "ash(1) to 9", x.ash(1), 9, 0);
        check.due("ash(0)", x.ash(0), AshGreetings.BAD);
        check.due("ash(41)", x.ash(41), AshGreetings.BAD);
        check.due("ash(1) without people", new AshGreetings().ash(1), AshGreetings.STATE);
        check.due("ash(0) without people", new AshGreetings().ash(0), AshGreetings.BAD);
    }

    private static void bestMove(Check check) {
        // Both are angered; either may leave, anywhere, and nothing grows.
        AshGreetings x = Check.townOf("00000 n5130 n5130");
        check.told(x, "best(1)", x.best(1), 1, 6);
        // Already apart, with ash where 1 is: 0 goes there, and both forgive.
        x = Check.townOf("00900 n5130 n5132");
        check.told(x, "best(2)", x.best(2), 2, 2);
        // 1 goes to where 0 is.
        x = Check.townOf("00900 n5132 n5130");
        check.told(x, "best(3)", x.best(3), 12, 0);
        // At peace already: nobody makes it less.
        x = Check.townOf("90000 n5120 n5120");
        x.deep(0);
        check.told(x, "best(2) of the best", x.best(2), AshGreetings.NONE, 2);
        check.due("best(40)", x.best(40), AshGreetings.NONE);
        // Street 0 is the only one with ash: 0 goes there, where 1 is.
        x = Check.townOf("90000 n5131 n5130");
        check.told(x, "best(40) to street 0", x.best(40), 0, 0);
        check.due("best(0)", x.best(0), AshGreetings.BAD);
        check.due("best(41)", x.best(41), AshGreetings.BAD);
        check.due("best(1) without people", new AshGreetings().best(1), AshGreetings.STATE);
        check.due("best(41) without people", new AshGreetings().best(41), AshGreetings.BAD);
    }

    private static void duels(Check check) {
        // One missing to be hid: the ash wins the first turn, the wind takes it back, the ash can't.
        AshGreetings x = Check.townOf("40000 n5130 n5030");
        x.fall(0, 1);
        x.undo(0);
        check.due("duel(0)", x.duel(0), 9 + 3);
        check.due("duel(1)", x.duel(1), 0 + 3);
        check.due("duel(2)", x.duel(2), 9 + 3);
        check.due("duel(3)", x.duel(3), 9 + 3);
        // 1 deep is enough here: the last turn is the ash's, and it has the last word.
        x = Check.townOf("00000 n1130 n1030");
        check.due("duel(2)", x.duel(2), 9 + 3);
        check.due("duel(3)", x.duel(3), 0 + 3);
        // Nothing done is the best for the wind where the ash has left nothing to clear.
        x = Check.townOf("99999 p5130 n5030");
        check.due("duel(3) of a priest", x.duel(3), 0 + 3);
        // Angered once a day, for six days.
        x = Check.townOf("00000 n5100 n5000");
        check.due("duel(0) from 0", x.duel(0), 6);
        // Two are missing, and the wind comes in between.
        x = Check.townOf("30000 n5130 n5030");
        check.due("duel(1), two missing", x.duel(1), 12);
        check.due("duel(3), two missing", x.duel(3), 12);
        // One is missing in each of two streets, and only one of them can have it.
        x = Check.townOf("44000 n5130 n5000 n5131 n5001");
        check.due("duel(1) of two pairs", x.duel(1), 0 + 9);
        check.due("duel(2) of two pairs", x.duel(2), 9 + 9);
        check.due("duel(3) of two pairs", x.duel(3), 0 + 9);
        check.due("duel(4)", x.duel(4), AshGreetings.BAD);
        check.due("duel(-1)", x.duel(-1), AshGreetings.BAD);
        check.due("duel(0) without people", new AshGreetings().duel(0), AshGreetings.STATE);
        check.due("duel(4) without people", new AshGreetings().duel(4), AshGreetings.BAD);
        turnsMayBeLeftOut(check);
    }

    /** The ash would do harm wherever it fell, so the first does best to do nothing. */
    private static void turnsMayBeLeftOut(Check check) {
        AshGreetings x = Check.townOf("00000 n5130 n5030");
        x.go(1, 1);
        check.due("duel(1) of those apart", x.duel(1), 6);
        check.due("duel(3) of those apart", x.duel(3), 6);
        x = Check.townOf("90000 n5130 n5030");
        check.due("duel(1) of those hid", x.duel(1), 3);
        check.due("duel(2): the wind clears", x.duel(2), 12);
    }
}
