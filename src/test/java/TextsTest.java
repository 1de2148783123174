/** Promises 8 to 10. */
public final class TextsTest {
    private static final int NOTHING = 1, BEYOND = 2, SIZE = 5;

    public static void main(String[] args) {
        Check check = new Check("TextsTest");
        textsComeWithBlanks(check);
        bytesAreCut(check);
        faultsAreTold(check);
        check.end();
    }

    private static void textsComeWithBlanks(Check check) {
        AshGreetings x = new AshGreetings();
        check.due("text(0, 0)", x.text(0, 0), 0);
        check.due("text(3, 60)", x.text(3, 60), 60);
        check.due("count(8)", x.count(8), 2);
        check.due("put(3, 59, 65)", x.put(3, 59, 65), 1032);
        check.due("text(3, 60) anew", x.text(3, 60), 60);
        check.due("put(3, 59, 65)", x.put(3, 59, 65), 1032);
        check.due("text(0, 61)", x.text(0, 61), AshGreetings.BAD);
        check.due("text(4, 1)", x.text(4, 1), AshGreetings.BAD);
        check.due("text(-1, -1)", x.text(-1, -1), AshGreetings.BAD);
        check.finds(x, "text(0, -1)", 0, x.text(0, -1), SIZE);
    }

    private static void bytesAreCut(Check check) {
        AshGreetings x = new AshGreetings();
        check.finds(x, "put in none", 0, x.put(0, 0, 1), NOTHING);
        x.text(0, 2);
        check.due("put 255", x.put(0, 1, 255), 1032);
        check.due("put 128", x.put(0, 1, 128), 999);
        check.due("put 256 + 110", x.put(0, 1, 256 + 110), 872);
        check.due("put 0", x.put(0, 1, 0), 1110);
        check.finds(x, "put(0, 2, 1)", 0, x.put(0, 2, 1), BEYOND);
        check.finds(x, "put(0, -1, 1)", 1, x.put(0, -1, 1), BEYOND);
        check.due("put(4, 0, 1)", x.put(4, 0, 1), AshGreetings.BAD);
        check.due("put(-1, 0, 1)", x.put(-1, 0, 1), AshGreetings.BAD);
    }

    private static void faultsAreTold(Check check) {
        AshGreetings x = new AshGreetings();
        check.finds(x, "fault of none", 0, x.fault(0), NOTHING);
        check.due("fault(4)", x.fault(4), AshGreetings.BAD);
        check.due("fault(-1)", x.fault(-1), AshGreetings.BAD);
        faultIs(check, "00000n0000n0000", AshGreetings.NONE);
        faultIs(check, "  00000  n0000   n0000   ", AshGreetings.NONE);
        faultIs(check, "99999n9994d9994s9994h9994p9994b9994n9994", AshGreetings.NONE);
        faultIs(check, "", 0);
        faultIs(check, "    ", 4);
        faultIs(check, "0000", 4);
        faultIs(check, "0000 0n0000n0000", 4);
        faultIs(check, "0000an0000n0000", 4);
        faultIs(check, "00000", 5);
        faultIs(check, "000000", 5);
        faultIs(check, "00000 x0000 n0000", 6);
        faultIs(check, "00000 N0000 n0000", 6);
        faultIs(check, "00000 n 000 n0000", 7);
        faultIs(check, "00000 n0:00 n0000", 8);
        faultIs(check, "00000 n00/0 n0000", 9);
        faultIs(check, "00000 n0005 n0000", 10);
        faultIs(check, "00000 n0000", 11);
        faultIs(check, "00000 n0000   ", 14);
        faultIs(check, "00000 n0000 n000", 16);
        faultIs(check, "00000 n0000 n000 ", 16);
        faultIs(check, "00000 n0000 n0000 \t", 18);
        faultIs(check, "00000n0000n0000n0000n0000n0000n0000n0000  n0000", 42);
        faultIs(check, "00000n0000n0000n0000n0000n0000n0000n0000?", 40);
        faultIs(check, "00000" + (char) 238 + "0000n0000", 5);
    }

    private static void faultIs(Check check, String said, int want) {
        AshGreetings x = new AshGreetings();
        Check.write(x, 0, said);
        check.due("fault of '" + said + "'", x.fault(0), want);
    }
}
