/** Promises 11 to 14. */
public final class TownTest {
    private static final int NOTHING = 1, UNLIKE = 3;
    private static final int KIND = 0, HIGH = 1, FOE = 2, GRUDGE = 3, STREET = 4, HID = 5, MEETS = 6;

    public static void main(String[] args) {
        Check check = new Check("TownTest");
        townsAreRead(check);
        factsAreTold(check);
        streetsAreTold(check);
        ringsAreClosed(check);
        someAreHid(check);
        marksAreTold(check);
        marksOfPriestAndBrother(check);
        check.end();
    }

    private static void townsAreRead(Check check) {
        AshGreetings x = new AshGreetings();
        check.finds(x, "town of none", 0, x.town(0), NOTHING);
        check.due("town(4)", x.town(4), AshGreetings.BAD);
        check.due("town(-1)", x.town(-1), AshGreetings.BAD);
        Check.write(x, 1, "10000 n5110 n5110");
        check.due("town(1)", x.town(1), 2);
        x.fall(0, 2);
        x.day();
        x.keep(0);
        x.keep(2);
        Check.write(x, 2, "10000 n5110");
        check.due("town of a fault", x.town(2), AshGreetings.STATE);
        check.due("deeds stay", x.count(2), 2);
        check.due("kept ones stay", x.count(9), 2);
        check.due("town anew", x.town(1), 2);
        check.due("no deeds", x.count(2), 0);
        check.due("day 0", x.count(1), 0);
        check.due("deep as at first", x.deep(0), 1);
        check.due("grudges as at first", x.count(3), 2);
        check.due("kept ones go", x.count(9), 0);
        check.finds(x, "on(2)", 1, x.on(2), NOTHING);
    }

    private static void factsAreTold(Check check) {
        AshGreetings x = Check.townOf("01234 n1290 d2181 s3572 h4463 p5554 b6640 n7730");
        int[] foes = {2, 2, 0, 0, 2, 4, -1};
        for (int i = 0; i < 7; i++) {
            factIs(check, x, i, KIND, i % 6);
            factIs(check, x, i, HIGH, i + 1);
            factIs(check, x, i, FOE, foes[i]);
        }
        int[] grudges = {9, 8, 7, 6, 5, 4, 3};
        int[] streets = {0, 1, 2, 3, 4, 0, 0};
        for (int i = 0; i < 7; i++) {
            factIs(check, x, i, GRUDGE, grudges[i]);
            factIs(check, x, i, STREET, streets[i]);
        }
        check.due("person(7, 0)", x.person(7, 0), AshGreetings.BAD);
        check.due("person(-1, 0)", x.person(-1, 0), AshGreetings.BAD);
        check.due("person(0, 7)", x.person(0, 7), AshGreetings.BAD);
        check.due("person(0, -1)", x.person(0, -1), AshGreetings.BAD);
        check.due("person(0, 0) without people", new AshGreetings().person(0, 0), AshGreetings.BAD);
    }

    private static void streetsAreTold(Check check) {
        AshGreetings x = Check.townOf("01239 n1290 d2180 s3572");
        check.told(x, "deep(0)", x.deep(0), 0, 2);
        check.told(x, "deep(2)", x.deep(2), 2, 1);
        check.told(x, "deep(4)", x.deep(4), 9, 0);
        check.due("deep(5)", x.deep(5), AshGreetings.BAD);
        check.due("deep(-1)", x.deep(-1), AshGreetings.BAD);
        check.due("deep(0) without people", new AshGreetings().deep(0), AshGreetings.STATE);
        check.due("deep(5) without people", new AshGreetings().deep(5), AshGreetings.BAD);
    }

    private static void ringsAreClosed(Check check) {
        // Four in one street, each with the next but one for a foe: nobody meets that one.
        AshGreetings x = Check.townOf("00000 n1210 n1210 n1210 n1210");
        check.due("across a ring of four", x.meets(), 0);
        // Three in one street: everybody meets everybody.
        x = Check.townOf("00000 n1210 n1210 n1210");
        check.due("in a ring of three", x.meets(), 7);
        // The last one's foe is the first one, the first one's is the last one.
        x = Check.townOf("00000 n1310 n1010 n1010 n1110");
        check.due("where a ring closes", x.meets(), 9);
        // 0, 2, 5 stand together; between them are people of another street.
        x = Check.townOf("00000 n1210 n1011 n1310 n1011 n1011 n1110");
        check.due("others stand elsewhere", x.meets(), 1 | 4 | 32);
        factIs(check, x, 0, MEETS, 1);
        factIs(check, x, 1, MEETS, 0);
        // The foe is in another street.
        x = Check.townOf("00000 n1110 n1111");
        check.due("apart", x.meets(), 0);
    }

    private static void someAreHid(Check check) {
        AshGreetings x = Check.townOf("54000 n5110 n5111 n6110 h6111 h7111 h1012 h2112");
        int[] hid = {1, 0, 0, 1, 0, 1, 1};
        for (int i = 0; i < 7; i++) {
            factIs(check, x, i, HID, hid[i]);
        }
        check.due("count(4)", x.count(4), 1 | 8 | 32 | 64);
    }

    private static void marksAreTold(Check check) {
        AshGreetings x = Check.townOf("00000 n9011 d9052 s9003 h9004 p9040 b9090 h1000");
        check.due("mark(1, 1)", x.mark(1, 1), 3);
        check.due("mark(4, 1)", x.mark(4, 1), 2);
        check.due("mark(2, 2), grudge 0", x.mark(2, 2), 1);
        check.due("mark(5, 2)", x.mark(5, 2), 1);
        check.due("mark(3, 3)", x.mark(3, 3), 2);
        check.due("mark(6, 3), high 1", x.mark(6, 3), 1);
        x.day();
        check.due("mark(2, 2) on day 1", x.mark(2, 2), 0);
        check.due("mark(5, 2) on day 1", x.mark(5, 2), 0);
        x.day();
        check.due("mark(2, 2) on day 2", x.mark(2, 2), 1);
        int before = 0;
        boolean[][] is = new boolean[6][7];
        is[1][1] = is[1][4] = is[2][2] = is[2][5] = is[3][3] = is[3][6] = is[4][4] = is[5][5] = true;
        for (int kind = 1; kind < 6; kind++) {
            for (int i = 0; i < 7; i++) {
                if (!is[kind][i]) {
                    check.finds(x, "mark(" + i + ", " + kind + ")", before, x.mark(i, kind), UNLIKE);
                    before++;
                }
            }
        }
        check.due("mark(0, 0)", x.mark(0, 0), AshGreetings.BAD);
        check.due("mark(0, 6)", x.mark(0, 6), AshGreetings.BAD);
        check.due("mark(0, -1)", x.mark(0, -1), AshGreetings.BAD);
        check.due("mark(7, 1)", x.mark(7, 1), AshGreetings.BAD);
        check.due("mark(-1, 1)", x.mark(-1, 1), AshGreetings.BAD);
    }

    private static void marksOfPriestAndBrother(Check check) {
        AshGreetings x = Check.townOf("40000 p9150 b5180");
        check.due("a priest whose foe is not hid", x.mark(0, 4), 1);
        check.due("a brother whose foe is not hid", x.mark(1, 5), 1);
        x.go(0, 1);
        check.due("a priest apart", x.mark(0, 4), 0);
        check.due("a brother apart", x.mark(1, 5), 0);
        x.go(0, 0);
        x.fall(0, 1);
        check.due("a priest whose foe is hid", x.mark(0, 4), 0);
        check.due("a brother whose foe is not", x.mark(1, 5), 1);
        x.fall(0, 4);
        check.due("a brother whose foe is hid", x.mark(1, 5), 0);
        x.day();
        check.due("nor on an odd day", x.mark(1, 5), 0);
        x = Check.townOf("00000 n9150 b5190");
        check.due("a brother who has 9", x.mark(1, 5), 0);
    }

    private static void factIs(Check check, AshGreetings x, int i, int what, int want) {
        check.told(x, "person(" + i + ", " + what + ")", x.person(i, what), 1, want);
    }
}
