/** Promises 15 to 21. */
public final class DeedsTest {
    private static final int NOTHING = 1;
    private static final int GRUDGE = 3, STREET = 4;

    public static void main(String[] args) {
        Check check = new Check("DeedsTest");
        nothingIsDoneWithoutPeople(check);
        daysByKinds(check);
        daysAreFull(check);
        ashFalls(check);
        windClears(check);
        peopleGo(check);
        deedsAreUndone(check);
        townsAreKept(check);
        deedsAreKept(check);
        check.end();
    }

    private static void nothingIsDoneWithoutPeople(Check check) {
        AshGreetings x = new AshGreetings();
        check.due("day()", x.day(), AshGreetings.STATE);
        check.due("fall(0, 1)", x.fall(0, 1), AshGreetings.STATE);
        check.due("wind(0)", x.wind(0), AshGreetings.STATE);
        check.due("go(0, 0)", x.go(0, 0), AshGreetings.BAD);
        check.due("undo(0)", x.undo(0), 0);
        check.due("undo(1)", x.undo(1), AshGreetings.BAD);
        check.due("keep(0)", x.keep(0), AshGreetings.STATE);
        check.due("keep(3)", x.keep(3), AshGreetings.BAD);
        check.finds(x, "on(0)", 0, x.on(0), NOTHING);
        check.due("on(3)", x.on(3), AshGreetings.BAD);
        check.due("on(-1)", x.on(-1), AshGreetings.BAD);
    }

    /** Each stands with one other in a street, is of a KIND, and has the other one for a foe. */
    private static void daysByKinds(Check check) {
        kindGoes(check, 'n', 5, true, 4, 3, 2);
        kindGoes(check, 'd', 5, true, 3, 1, 0);
        kindGoes(check, 's', 5, true, 4, 4, 3);
        kindGoes(check, 'h', 5, true, 4, 3, 2);
        kindGoes(check, 'p', 5, true, 3, 1, 0);
        kindGoes(check, 'b', 5, true, 4, 4, 3);
        kindGoes(check, 'n', 7, false, 8, 9, 9);
        kindGoes(check, 'd', 7, false, 8, 9, 9);
        kindGoes(check, 's', 7, false, 8, 9, 9);
        kindGoes(check, 'h', 7, false, 8, 9, 9);
        kindGoes(check, 'p', 7, false, 5, 3, 1);
        kindGoes(check, 'b', 7, false, 7, 7, 7);
        kindGoes(check, 'n', 1, true, 0, 0, 0);
        kindGoes(check, 'd', 1, true, 0, 0, 0);
        kindGoes(check, 's', 1, true, 0, 0, 0);
    }

    private static void kindGoes(Check check, char letter, int grudge, boolean hid, int... then) {
        String deep = hid ? "90000" : "00000";
        AshGreetings x = Check.townOf(deep + letter + "91" + grudge + "0n9000");
        for (int d = 0; d < then.length; d++) {
            check.due(letter + " from " + grudge + ", day " + d, x.day(), then[d]);
            check.told(x, "the grudge itself", x.person(0, GRUDGE), 1, then[d]);
        }
        check.due("count(1)", x.count(1), then.length);
    }

    private static void daysAreFull(Check check) {
        AshGreetings x = Check.townOf("00000 n5010 n5010");
        for (int d = 0; d < 40; d++) {
            check.due("day " + d, x.day(), 2);
        }
        check.due("day() behind 40", x.day(), AshGreetings.FULL);
        check.due("fall(0, 1)", x.fall(0, 1), AshGreetings.FULL);
        check.due("fall(5, 1)", x.fall(5, 1), AshGreetings.BAD);
        check.due("wind(0): STATE ahead of FULL", x.wind(0), AshGreetings.STATE);
        check.due("go(0, 0): STATE ahead of FULL", x.go(0, 0), AshGreetings.STATE);
        check.due("go(0, 1)", x.go(0, 1), AshGreetings.FULL);
        check.due("lots(1, 1)", x.lots(1, 1), AshGreetings.FULL);
        check.due("count(2)", x.count(2), 40);
        check.due("count(1)", x.count(1), 40);
        check.due("keep(0)", x.keep(0), 40);
        x.undo(39);
        x.fall(0, 9);
        check.due("fall(0, 1): STATE ahead of FULL", x.fall(0, 1), AshGreetings.STATE);
        check.due("wind(0) when full", x.wind(0), AshGreetings.FULL);
    }

    private static void ashFalls(Check check) {
        AshGreetings x = Check.townOf("08000 n5110 n5110");
        check.due("fall(0, 3)", x.fall(0, 3), 3);
        check.due("fall(1, 9)", x.fall(1, 9), 9);
        check.due("fall(1, 1)", x.fall(1, 1), AshGreetings.STATE);
        check.due("fall(4, 1)", x.fall(4, 1), 1);
        check.due("deeds", x.count(2), 3);
        check.due("fall(0, 0)", x.fall(0, 0), AshGreetings.BAD);
        check.due("fall(0, 10)", x.fall(0, 10), AshGreetings.BAD);
        check.due("fall(1, 10)", x.fall(1, 10), AshGreetings.BAD);
        check.due("fall(5, 1)", x.fall(5, 1), AshGreetings.BAD);
        check.due("fall(-1, 1)", x.fall(-1, 1), AshGreetings.BAD);
        check.due("count(6)", x.count(6), 13);
    }

    private static void windClears(Check check) {
        AshGreetings x = Check.townOf("07000 n5110 n5110");
        check.due("wind(1)", x.wind(1), 7);
        check.due("deep(1)", x.deep(1), 0);
        check.due("wind(1) again", x.wind(1), AshGreetings.STATE);
        check.due("wind(5)", x.wind(5), AshGreetings.BAD);
        check.due("wind(-1)", x.wind(-1), AshGreetings.BAD);
        check.due("deeds", x.count(2), 1);
    }

    private static void peopleGo(Check check) {
        AshGreetings x = Check.townOf("07000 n5112 n5110");
        check.due("go(0, 4)", x.go(0, 4), 2);
        check.told(x, "person(0, 4)", x.person(0, STREET), 1, 4);
        check.due("go(0, 4) again", x.go(0, 4), AshGreetings.STATE);
        check.due("go(2, 0)", x.go(2, 0), AshGreetings.BAD);
        check.due("go(-1, 0)", x.go(-1, 0), AshGreetings.BAD);
        check.due("go(0, 5)", x.go(0, 5), AshGreetings.BAD);
        check.due("go(0, -1)", x.go(0, -1), AshGreetings.BAD);
        check.due("deeds", x.count(2), 1);
    }

    /** Grudges at their ends and ash at its most would not come back by going the way backward. */
    private static void deedsAreUndone(Check check) {
        AshGreetings x = Check.townOf("70030 n5190 d5110 n5182");
        long[] digests = new long[8];
        digests[0] = x.digest();
        x.fall(0, 9);
        digests[1] = x.digest();
        x.day();
        digests[2] = x.digest();
        x.wind(0);
        digests[3] = x.digest();
        x.day();
        digests[4] = x.digest();
        x.go(2, 0);
        digests[5] = x.digest();
        x.day();
        digests[6] = x.digest();
        x.wind(3);
        digests[7] = x.digest();
        check.due("undo(8)", x.undo(8), AshGreetings.BAD);
        check.due("undo(-1)", x.undo(-1), AshGreetings.BAD);
        check.due("undo(7)", x.undo(7), 0);
        check.due("digest", x.digest(), digests[7]);
        check.due("undo(6)", x.undo(6), 1);
        check.due("digest", x.digest(), digests[6]);
        check.due("undo(3)", x.undo(3), 3);
        check.due("digest", x.digest(), digests[3]);
        check.due("undo(2)", x.undo(2), 1);
        check.due("digest", x.digest(), digests[2]);
        check.due("undo(0)", x.undo(0), 2);
        check.due("digest", x.digest(), digests[0]);
        check.due("undo(1) then", x.undo(1), AshGreetings.BAD);
        check.due("day() goes on", x.day(), 8 + 1 + 8);
    }

    /** Other deeds, done while a town is kept, must not be taken for its own. */
    private static void deedsAreKept(Check check) {
        for (int n = 0; n <= 3; n++) {
            AshGreetings x = Check.townOf("00000 n5110 n5130");
            x.fall(1, 3);
            x.go(0, 3);
            x.day();
            x.keep(1);
            x.undo(0);
            x.go(1, 4);
            x.fall(2, 5);
            x.wind(2);
            check.due("on(1)", x.on(1), 3);
            check.due("undo(" + n + ")", x.undo(n), 3 - n);
            check.due("the ash that fell", x.deep(1), n >= 1 ? 3 : 0);
            check.told(x, "the one who went", x.person(0, STREET), 1, n >= 2 ? 3 : 0);
            check.told(x, "the one who stayed", x.person(1, STREET), 1, 0);
            check.due("the day", x.count(1), n >= 3 ? 1 : 0);
            check.due("the ash in all", x.count(6), n >= 1 ? 3 : 0);
        }
    }

    private static void townsAreKept(Check check) {
        AshGreetings x = Check.townOf("00000 n5110 n5130");
        x.day();
        check.due("keep(0)", x.keep(0), 1);
        check.due("keep(3)", x.keep(3), AshGreetings.BAD);
        check.due("keep(-1)", x.keep(-1), AshGreetings.BAD);
        x.fall(0, 5);
        x.day();
        x.day();
        check.due("keep(2)", x.keep(2), 4);
        check.due("count(9)", x.count(9), 2);
        check.due("on(0)", x.on(0), 1);
        check.due("grudges of then", x.count(3), 6);
        check.due("day of then", x.count(1), 1);
        check.due("ash of then", x.count(6), 0);
        check.finds(x, "on(1)", 0, x.on(1), NOTHING);
        check.due("undo(0)", x.undo(0), 1);
        check.due("grudges at first", x.count(3), 4);
        check.due("on(2)", x.on(2), 4);
        check.due("grudges of then", x.count(3), 2);
        check.due("undo(2): its own deeds came along", x.undo(2), 2);
        check.due("grudges", x.count(3), 6);
        check.due("ash", x.count(6), 5);
        check.due("keep(0) over it", x.keep(0), 2);
        check.due("count(9)", x.count(9), 2);
        x.undo(0);
        x.go(0, 3);
        x.wind(0);
        x.go(1, 2);
        check.due("on(0)", x.on(0), 2);
        check.due("ash", x.count(6), 5);
        check.due("undo(1): not what was done meanwhile", x.undo(1), 1);
        check.due("ash", x.count(6), 0);
        check.due("grudges", x.count(3), 6);
        x.deep(0);
        check.due("who is there", x.asked(), 2);
    }
}
