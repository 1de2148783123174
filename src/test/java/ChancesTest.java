/** Promises 32 to 34, 36, 37. */
public final class ChancesTest {
    public static void main(String[] args) {
        Check check = new Check("ChancesTest");
        oddsAreTold(check);
        meansAreTold(check);
        refusals(check);
        lotsAreDrawn(check);
        lotsOfNothing(check);
        lotsOfWindAndAsh(check);
        check.end();
    }

    private static void fractionIs(Check check, AshGreetings x, String call, int got, long up, long low) {
        check.due(call, got, 1);
        check.due(call + ", upper()", x.upper(), up);
        check.due(call + ", lower()", x.lower(), low);
    }

    private static void oddsAreTold(Check check) {
        AshGreetings x = new AshGreetings();
        check.due("upper() before", x.upper(), 0);
        check.due("lower() before", x.lower(), 1);
        // 0 forgives unless street 0 is cleared: 3 behind two days, or 7.
        x = Check.townOf("90000 n5150 n5000");
        fractionIs(check, x, "odds(3, 2, 3)", x.odds(3, 2, 3), 3, 4);
        fractionIs(check, x, "odds(2, 2, 3)", x.odds(2, 2, 3), 0, 1);
        fractionIs(check, x, "odds(7, 2, 3)", x.odds(7, 2, 3), 1, 1);
        fractionIs(check, x, "odds(6, 2, 5)", x.odds(6, 2, 5), 7, 12);
        fractionIs(check, x, "odds(6, 2, 0)", x.odds(6, 2, 0), 1, 1);
        fractionIs(check, x, "odds(6, 2, 12)", x.odds(6, 2, 12), 0, 1);
        fractionIs(check, x, "odds(5, 0, 7)", x.odds(5, 0, 7), 1, 1);
        fractionIs(check, x, "odds(0, 5, 1)", x.odds(0, 5, 1), 11, 12);
        // Cleared is 0 deep, where even one as high as 1 is seen.
        x = Check.townOf("90000 n1150 n1000");
        fractionIs(check, x, "odds(5, 1, 4)", x.odds(5, 1, 4), 2, 3);
        // Two streets with a pair each, by themselves.
        x = Check.townOf("99000 n5110 n5000 n5111 n5001");
        fractionIs(check, x, "odds(0, 1, 5)", x.odds(0, 1, 5), 49, 144);
        fractionIs(check, x, "odds(2, 1, 5)", x.odds(2, 1, 5), 119, 144);
        fractionIs(check, x, "odds(63, 20, 5)", x.odds(63, 20, 5), 1, 1);
    }

    private static void meansAreTold(Check check) {
        AshGreetings x = Check.townOf("90000 n5150 n5000");
        fractionIs(check, x, "mid(2, 3)", x.mid(2, 3), 4, 1);
        fractionIs(check, x, "mid(2, 1)", x.mid(2, 1), 10, 3);
        fractionIs(check, x, "mid(1, 5)", x.mid(1, 5), 29, 6);
        fractionIs(check, x, "mid(0, 5)", x.mid(0, 5), 5, 1);
        fractionIs(check, x, "mid(20, 0)", x.mid(20, 0), 0, 1);
        fractionIs(check, x, "mid(20, 12)", x.mid(20, 12), 9, 1);
    }

    private static void refusals(Check check) {
        AshGreetings none = new AshGreetings();
        AshGreetings some = Check.townOf("90000 n5150 n5000");
        fractionIs(check, some, "odds(0, 5, 1)", some.odds(0, 5, 1), 11, 12);
        check.due("odds(0, 0, 0)", none.odds(0, 0, 0), AshGreetings.STATE);
        check.due("mid(0, 0)", none.mid(0, 0), AshGreetings.STATE);
        check.due("lots(1, 1)", none.lots(1, 1), AshGreetings.STATE);
        for (AshGreetings x : new AshGreetings[] {none, some}) {
            check.due("odds(-1, 0, 0)", x.odds(-1, 0, 0), AshGreetings.BAD);
            check.due("odds(64, 0, 0)", x.odds(64, 0, 0), AshGreetings.BAD);
            check.due("odds(0, -1, 0)", x.odds(0, -1, 0), AshGreetings.BAD);
            check.due("odds(0, 21, 0)", x.odds(0, 21, 0), AshGreetings.BAD);
            check.due("odds(0, 0, -1)", x.odds(0, 0, -1), AshGreetings.BAD);
            check.due("odds(0, 0, 13)", x.odds(0, 0, 13), AshGreetings.BAD);
            check.due("mid(-1, 0)", x.mid(-1, 0), AshGreetings.BAD);
            check.due("mid(21, 0)", x.mid(21, 0), AshGreetings.BAD);
            check.due("mid(0, -1)", x.mid(0, -1), AshGreetings.BAD);
            check.due("mid(0, 13)", x.mid(0, 13), AshGreetings.BAD);
            check.due("lots(0, 1)", x.lots(0, 1), AshGreetings.BAD);
            check.due("lots(21, 1)", x.lots(21, 1), AshGreetings.BAD);
            check.due("lots(1, 0)", x.lots(1, 0), AshGreetings.BAD);
            check.due("lots(1, -1)", x.lots(1, -1), AshGreetings.BAD);
            check.due("lots(1, MAX)", x.lots(1, Integer.MAX_VALUE), AshGreetings.BAD);
        }
        check.due("upper() behind refusals", some.upper(), 11);
        check.due("lower() behind refusals", some.lower(), 12);
    }

    /** Does by the other calls what the lots of a seed say, and compares. */
    private static void lotsAreDrawn(Check check) {
        String said = "31042 n4150 d6140 s5180 h7130 p9151 b2191 n3030";
        for (int seed : new int[] {1, 2, 77, 4711, 1234567, 2147483646}) {
            AshGreetings x = Check.townOf(said);
            AshGreetings y = Check.townOf(said);
            long lot = seed;
            int nothing = 0;
            for (int d = 0; d < 20; d++) {
                lot = lot * 48271 % 2147483647;
                nothing += draw(y, lot) ? 0 : 1;
            }
            check.due("lots(20, " + seed + ")", x.lots(20, seed), y.count(3));
            check.due("deeds", x.count(2), 20);
            check.due("deeds that are some", y.count(2), 20 - nothing);
            check.due("the day", x.count(1), y.count(1));
            check.due("the ash", x.count(6), y.count(6));
            check.due("the hid", x.count(4), y.count(4));
            check.due("who meets", x.meets(), y.meets());
            check.due("20 more", x.lots(20, seed) >= 0 ? 1 : 0, 1);
            check.due("1 more", x.lots(1, seed), AshGreetings.FULL);
            check.due("undo(21)", x.undo(21), 19);
            check.due("20 more than fit", x.lots(20, seed), AshGreetings.FULL);
            check.due("19 fit", x.lots(19, seed) >= 0 ? 1 : 0, 1);
        }
    }

    private static boolean draw(AshGreetings y, long lot) {
        int street = (int) (lot / 8 % 5);
        int what = (int) (lot % 8);
        if (what == 0) {
            return y.wind(street) >= 0;
        }
        if (what == 1 || what == 2) {
            return y.fall(street, 1) >= 0;
        }
        if (what == 3) {
            return y.go((int) (lot / 64 % y.count(0)), street) >= 0;
        }
        return y.day() >= 0;
    }

    private static void lotsOfWindAndAsh(Check check) {
        for (int seed = 1; seed < 100; seed++) {
            int what = (int) (seed * 48271L % 2147483647L % 8);
            AshGreetings x = Check.townOf("11111 n5150 n5151");
            x.lots(1, seed);
            int ash = what == 0 ? 4 : what <= 2 ? 6 : 5;
            check.due("ash behind lots(1, " + seed + ")", x.count(6), ash);
            check.due("day behind lots(1, " + seed + ")", x.count(1), what > 3 ? 1 : 0);
        }
    }

    /** Towns in which what the first lot of a seed says can not be. */
    private static void lotsOfNothing(Check check) {
        for (int seed = 1; seed < 400; seed++) {
            long lot = seed * 48271L % 2147483647L;
            int street = (int) (lot / 8 % 5);
            int what = (int) (lot % 8);
            if (what > 3) {
                continue;
            }
            String deep = what == 0 ? "00000" : "99999";
            AshGreetings x = Check.townOf(deep + "n515" + street + "n515" + street);
            long hid = x.count(4);
            check.due("lots(1, " + seed + ") of nothing", x.lots(1, seed), 10);
            check.due("it is a deed", x.count(2), 1);
            check.due("no ash came or went", x.count(6), what == 0 ? 0 : 45);
            check.due("nobody went", x.count(4), hid);
            x.deep(street);
            check.due("both are there", x.asked(), 2);
            check.due("no day went by", x.count(1), 0);
            check.due("undo(0)", x.undo(0), 1);
        }
    }
}
