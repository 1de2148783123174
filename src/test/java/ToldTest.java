/** Promises 1, 35 and 38 to 41. */
public final class ToldTest {
    public static void main(String[] args) {
        Check check = new Check("ToldTest");
        aNewObject(check);
        whatWasAsked(check);
        countsAreTold(check);
        findingsAreCounted(check);
        digestsAreTold(check);
        check.end();
    }

    private static void aNewObject(Check check) {
        AshGreetings x = new AshGreetings();
        for (int what = 0; what < 12; what++) {
            check.due("count(" + what + ")", x.count(what), 0);
        }
        for (int r = 0; r < 6; r++) {
            check.due("at(" + r + ", 0)", x.at(r, 0), AshGreetings.FINDING);
        }
        for (int t = 0; t < 4; t++) {
            check.due("fault(" + t + ")", x.fault(t), AshGreetings.FINDING);
        }
        x = new AshGreetings();
        check.due("asked()", x.asked(), 0);
        check.due("upper()", x.upper(), 0);
        check.due("lower()", x.lower(), 1);
        check.due("finding()", x.finding(), 0);
        for (int f = 1; f <= 5; f++) {
            check.due("findings(" + f + ")", x.findings(f), 0);
        }
    }

    /** Calls that tell nothing by asked() leave it, as do those that are refused or answer NONE. */
    private static void whatWasAsked(Check check) {
        AshGreetings x = Check.townOf("00000 n5150 b5170");
        Check.fillRow(x, 0, 0);
        Check.fillRow(x, 1, 6, 6);
        x.lay(1, 1, 8);
        check.due("asked() behind lay()", x.asked(), 6);
        x.at(1, 1);
        check.due("asked() behind at()", x.asked(), 8);
        x.mark(1, 5);
        x.fall(0, 2);
        x.wind(0);
        x.go(0, 1);
        x.go(0, 0);
        x.day();
        x.keep(0);
        x.undo(0);
        x.on(0);
        x.undo(0);
        x.kinds(0, 1);
        x.highs(0, 1);
        x.duel(1);
        x.odds(1, 1, 1);
        x.mid(1, 1);
        x.count(3);
        x.digest();
        x.finding();
        x.findings(1);
        x.row(5, 3);
        x.copy(1, 0, 5, 0, 2);
        x.tear(5);
        x.text(3, 5);
        x.put(3, 0, 9);
        x.fault(3);
        x.lots(2, 5);
        x.undo(0);
        check.due("asked() behind those that tell nothing by it", x.asked(), 8);
        x.test(0, 0);
        x.peace();
        x.person(9, 0);
        x.deep(9);
        x.later(0, 61);
        x.left(-1);
        x.ash(0);
        x.best(0);
        x.lay(1, 9, 9);
        x.at(0, 9);
        x.mean(4);
        check.due("asked() behind refusals and NONE", x.asked(), 8);
        check.told(x, "mean(1)", x.mean(1), 1, 7);
        check.told(x, "person(1, 3)", x.person(1, 3), 1, 7);
        check.told(x, "deep(0)", x.deep(0), 0, 2);
        check.told(x, "meets()", x.meets(), 3, 0);
        check.told(x, "later(1, 1)", x.later(1, 1), 7, 13);
        check.told(x, "left(0)", x.left(0), 12, 0);
        check.told(x, "ash(1)", x.ash(1), 5, 10);
        check.told(x, "best(1)", x.best(1), 1, 12);
    }

    private static void countsAreTold(Check check) {
        AshGreetings x = Check.townOf("50123 n4150 d6100 s5180 h7130 p9151 b2191 p3000");
        x.row(0, 1);
        x.row(3, 0);
        x.text(1, 0);
        x.keep(0);
        x.keep(2);
        x.day();
        x.wind(0);
        // Foes: 0 -> 1, 1 -> 2, 2 -> 3, 3 -> 4 (apart), 4 -> 5, 5 -> 6 (apart), 6 none.
        int[] due = {7, 1, 2, 6 + 0 + 7 + 3 + 3 + 9 + 0, 0, 2 | 64, 6, 2, 2, 2, 3, 2};
        for (int what = 0; what < 12; what++) {
            check.due("count(" + what + ")", x.count(what), due[what]);
        }
        x.undo(1);
        check.due("who is hid", x.count(4), 1 | 4 | 8 | 64);
        x = Check.townOf("00000 p4100 b6102");
        check.due("the first one is devout", x.count(10), 1);
        check.due("the last one is stubborn", x.count(11), 1);
        check.due("both are without grudge", x.count(5), 3);
        check.due("count(12)", x.count(12), AshGreetings.BAD);
        check.due("count(-1)", x.count(-1), AshGreetings.BAD);
    }

    private static void findingsAreCounted(Check check) {
        AshGreetings x = new AshGreetings();
        x.row(0, -1);
        x.row(0, 1);
        x.at(0, 1);
        x.at(0, 2);
        x.at(1, 0);
        x.row(9, 9);
        int[] due = {AshGreetings.BAD, 1, 2, 0, 0, 1, AshGreetings.BAD};
        for (int f = 0; f < due.length; f++) {
            check.due("findings(" + f + ")", x.findings(f), due[f]);
        }
        check.due("finding()", x.finding(), 1);
        x.at(0, 0);
        check.due("finding() stays", x.finding(), 1);
    }

    private static void digestsAreTold(Check check) {
        AshGreetings x = new AshGreetings();
        long h = 17;
        for (int v = 0; v < 12 + 5; v++) {
            h = 31 * h;
        }
        for (int missing = 0; missing < 3 + 6 + 4; missing++) {
            h = 31 * h - 1;
        }
        check.due("digest() of a new object", x.digest(), h);
        x.row(2, 2);
        x.lay(2, 1, -7);
        x.text(1, 1);
        x.put(1, 0, 200);
        int[] all = {0, 0, 0, 0, 0, 0, 0, 1, 1, 0, 0, 0, 0, 0, 0, 0, 0, -1, -1, -1,
            -1, -1, 2, 0, -7, -1, -1, -1, -1, 1, -56, -1, -1};
        check.due("digest() of rows and texts", x.digest(), digestOf(all));
        int asked = x.asked();
        x = Check.townOf("54000 n5110 b6220");
        x.keep(1);
        x.wind(1);
        x.asked();
        int[] town = {2, 0, 1, 3, 1, 0, 5, 0, 1, 1, 0, 1, 0, 5, 1, 1, 0, 1, 1, 5, 6, -1, 2, 0, 0, 0,
            5, 0, 0, 0, 0, -1, 0, -1, -1, -1, -1, -1, -1, -1,
            17, '5', '4', '0', '0', '0', ' ', 'n', '5', '1', '1', '0', ' ', 'b', '6', '2', '2', '0',
            -1, -1, -1};
        check.due("digest() of a town", x.digest(), digestOf(town));
        check.due("digest() leaves asked()", x.asked(), asked);
    }

    private static long digestOf(int[] values) {
        long h = 17;
        for (int v : values) {
            h = 31 * h + v;
        }
        return h;
    }
}
