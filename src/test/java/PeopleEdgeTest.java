/** The boundary cases of promises 12 to 14 and of how PEOPLE of all KINDS meet, FORGIVE, are ANGERED. */
public final class PeopleEdgeTest {
    private static final int BAD = AshGreetings.BAD, STATE = AshGreetings.STATE;
    private static final int UNLIKE = 3;
    private static final int MIN = Integer.MIN_VALUE, MAX = Integer.MAX_VALUE;
    private static final int KIND = 0, HIGH = 1, FOE = 2, GRUDGE = 3, STREET = 4, HID = 5, MEETS = 6;
    private static final String LETTERS = "ndshpb";

    public static void main(String[] args) {
        Check check = new Check("PeopleEdgeTest");
        person(check);
        foesGoRound(check);
        hidAreThoseNoHigher(check);
        meetingsByHowManyStand(check);
        meetingsAmongOthers(check);
        grudgesByKinds(check);
        grudgesOfThoseApart(check);
        deep(check);
        mark(check);
        markOfPriests(check);
        markOfBrothers(check);
        markRefused(check);
        check.end();
    }

    private static void person(Check check) {
        Edge two = Edge.town(check, "00000 n0000 b9994");
        two.tells(1, 0, "person", 0, KIND).tells(1, 5, "person", 1, KIND);
        two.tells(1, 0, "person", 0, HIGH).tells(1, 9, "person", 1, HIGH);
        two.tells(1, -1, "person", 0, FOE).tells(1, 0, "person", 1, FOE);
        two.tells(1, 0, "person", 0, GRUDGE).tells(1, 9, "person", 1, GRUDGE);
        two.tells(1, 0, "person", 0, STREET).tells(1, 4, "person", 1, STREET);
        two.tells(1, 1, "person", 0, HID).tells(1, 0, "person", 1, HID);
        two.tells(1, 0, "person", 0, MEETS).tells(1, 0, "person", 1, MEETS);
        for (int what : new int[] {-1, 7, MIN, MAX}) {
            two.leaves(BAD, "person", 0, what).leaves(BAD, "person", 2, what);
        }
        for (int i : new int[] {-1, 2, 6, 7, MIN, MAX}) {
            two.leaves(BAD, "person", i, KIND).leaves(BAD, "person", i, MEETS);
        }
        Edge seven = Edge.town(check, "00000" + "n0000".repeat(6) + "p1234");
        seven.tells(1, 4, "person", 6, KIND).leaves(BAD, "person", 7, KIND);
        Edge.fresh(check).leaves(BAD, "person", 0, KIND).leaves(BAD, "person", 0, -1);
        for (int kind = 0; kind < 6; kind++) {
            Edge.town(check, "00000 " + LETTERS.charAt(kind) + "5000 n5000").tells(1, kind, "person", 0, KIND);
        }
    }

    /** So many numbers further on, behind the last one the first again; oneself: none. */
    private static void foesGoRound(Check check) {
        for (int people = 2; people <= 7; people++) {
            for (int further = 0; further <= 9; further++) {
                Edge all = Edge.town(check, "00000" + ("n5" + further + "00").repeat(people));
                for (int i = 0; i < people; i++) {
                    int foe = i + further;
                    while (foe >= people) {
                        foe -= people;
                    }
                    all.tells(1, foe == i ? -1 : foe, "person", i, FOE);
                }
            }
        }
    }

    /** No more than how DEEP it lies; a SHORT one is SEEN 2 less HIGH, 0 at least. */
    private static void hidAreThoseNoHigher(Check check) {
        for (int high = 0; high <= 9; high++) {
            for (int deep = 0; deep <= 9; deep++) {
                for (char letter : LETTERS.toCharArray()) {
                    int seen = letter != 'h' ? high : high < 2 ? 0 : high - 2;
                    int hid = seen <= deep ? 1 : 0;
                    Edge one = Edge.town(check, "00" + deep + "00" + letter + high + "002n9000");
                    one.tells(1, hid, "person", 0, HID).tells(1, high, "person", 0, HIGH).answers(hid, "count", 4);
                }
            }
        }
    }

    /** All in one STREET: two meet, of three or more the last one and the first one, too. */
    private static void meetingsByHowManyStand(Check check) {
        for (int people = 2; people <= 7; people++) {
            for (int further = 0; further < people; further++) {
                Edge all = Edge.town(check, "00000" + ("n5" + further + "03").repeat(people));
                boolean meet = further == 1 || further == people - 1;
                for (int i = 0; i < people; i++) {
                    all.tells(1, meet ? 1 : 0, "person", i, MEETS);
                }
                all.tells(meet ? (1 << people) - 1 : 0, 0, "meets");
            }
        }
    }

    /** Who stands elsewhere does not stand between; who is alone meets nobody. */
    private static void meetingsAmongOthers(Check check) {
        // 0 and 6 are two; 1, 3, 5 three; 2, 4 two.
        Edge seven = Edge.town(check, "00000 n5600 n5401 n5202 n5201 n5502 n5301 n5100");
        // Foes: 0 -> 6, 1 -> 5, 2 -> 4, 3 -> 5, 4 -> 2, 5 -> 1, 6 -> 0.
        seven.answers(127, "meets");
        seven.then("go", 0, 4).answers(127 - 1 - 64, "meets");
        // Now 1, 2, 3, 5 are four: 1 and 5 are its ends, 3 and 5 stand side by side.
        seven.then("go", 2, 1).answers(127 - 4 - 16, "meets");
        // 1, 3, 4, 5: 3 and 5 have 4 between and 1 outside.
        seven.then("go", 4, 1).answers(127 - 4 - 8 - 16, "meets");
        // Nobody of five STREETS shares one.
        Edge.town(check, "00000 n5100 n5101 n5102 n5103 n5104").answers(0, "meets");
    }

    /** Each GRUDGE of each KIND on an even DAY and on an odd one. */
    private static void grudgesByKinds(Check check) {
        int[] forgiving = {1, 2, 1, 1, 2, 1};
        for (int kind = 0; kind < 6; kind++) {
            for (int grudge = 0; grudge <= 9; grudge++) {
                String one = LETTERS.charAt(kind) + "91" + grudge;
                boolean isStubborn = kind == 2 || kind == 5;
                int less = Math.max(0, grudge - forgiving[kind]);
                int lessLater = isStubborn ? grudge : less;
                int more = kind == 4 ? less : kind == 5 ? grudge : Math.min(9, grudge + 1);
                // Apart on DAY 0, together on DAY 1.
                Edge.town(check, "90000" + one + "0n5000").answers(less, "day");
                Edge.town(check, "90000" + one + "1n5000").then("day").then("go", 0, 0).answers(lessLater, "day");
                Edge.town(check, "00000" + one + "0n5000").answers(more, "day");
                Edge.town(check, "00000" + one + "1n5000").then("day").then("go", 0, 0).answers(more, "day");
            }
        }
        // The FOE is HID if SEEN as HIGH as it is DEEP, not if 1 higher.
        Edge.town(check, "40000 n9150 n4000").answers(4, "day");
        Edge.town(check, "40000 n9150 n5000").answers(6, "day");
        Edge.town(check, "40000 n9150 h6000").answers(4, "day");
        Edge.town(check, "40000 n9150 h7000").answers(6, "day");
        // All by how it is at its beginning.
        Edge.town(check, "40000 n4150 n4150").answers(8, "day");
    }

    private static void grudgesOfThoseApart(Check check) {
        for (int kind = 0; kind < 6; kind++) {
            char letter = LETTERS.charAt(kind);
            // No FOE; the FOE elsewhere; the FOE across a ring of four.
            Edge.town(check, "00000" + letter + "5050n9000").answers(5, "day");
            Edge.town(check, "99999" + letter + "5150n9001").answers(5, "day");
            Edge.town(check, "99999" + letter + "5250n9000n9000n9000").answers(5, "day");
        }
    }

    private static void deep(Check check) {
        Edge two = Edge.town(check, "09870 n5000 n5004");
        two.tells(0, 1, "deep", 0).tells(9, 0, "deep", 1).tells(0, 1, "deep", 4);
        two.then("go", 0, 4).tells(0, 2, "deep", 4).tells(0, 0, "deep", 0);
        Edge.town(check, "00000" + "n0002".repeat(7)).tells(0, 7, "deep", 2);
        for (int c : new int[] {-1, 5, MIN, MAX}) {
            two.leaves(BAD, "deep", c);
            // BAD is ahead of STATE.
            Edge.fresh(check).leaves(BAD, "deep", c);
        }
        for (int c = 0; c < 5; c++) {
            Edge.fresh(check).leaves(STATE, "deep", c);
        }
    }

    private static void mark(Check check) {
        for (int grudge = 0; grudge <= 9; grudge++) {
            int often = 0;
            for (int rest = grudge; rest > 0; rest -= 2) {
                often++;
            }
            Edge two = Edge.town(check, "00000 d90" + grudge + "0 p90" + grudge + "0");
            two.leaves(often, "mark", 0, 1).leaves(often, "mark", 1, 1);
            Edge stubborn = Edge.town(check, "00000 s90" + grudge + "0 b90" + grudge + "0");
            stubborn.leaves(1, "mark", 0, 2).leaves(1, "mark", 1, 2);
            stubborn.then("day").leaves(0, "mark", 0, 2).leaves(0, "mark", 1, 2);
            stubborn.times(2, "day").leaves(1, "mark", 0, 2).leaves(1, "mark", 1, 2);
        }
        for (int high = 0; high <= 9; high++) {
            Edge.town(check, "00000 h" + high + "000 n9000").leaves(Math.min(2, high), "mark", 0, 3);
        }
    }

    private static void markOfPriests(Check check) {
        // The FOE is not HID, just not HID, just HID.
        Edge.town(check, "00000 p9150 n9000").leaves(1, "mark", 0, 4).then("day").leaves(1, "mark", 0, 4);
        Edge.town(check, "40000 p9150 n5000").leaves(1, "mark", 0, 4).then("fall", 0, 1).leaves(0, "mark", 0, 4);
        Edge.town(check, "40000 p9150 h6000").leaves(0, "mark", 0, 4);
        // Though the GRUDGE is 0; elsewhere; none for a FOE; not met.
        Edge.town(check, "00000 p9100 n9000").leaves(1, "mark", 0, 4);
        Edge.town(check, "00000 p9150 n9001").leaves(0, "mark", 0, 4);
        Edge.town(check, "00000 p9050 n9000").leaves(0, "mark", 0, 4);
        Edge.town(check, "00000 p9250 n9000 n9000 n9000").leaves(0, "mark", 0, 4);
    }

    private static void markOfBrothers(Check check) {
        for (int grudge = 0; grudge <= 9; grudge++) {
            Edge seen = Edge.town(check, "00000 b91" + grudge + "0 n9000");
            seen.leaves(grudge < 9 ? 1 : 0, "mark", 0, 5).then("day").leaves(grudge < 9 ? 1 : 0, "mark", 0, 5);
            // By FORGIVING it is never more, not even where a NEIGHBOUR's would be less.
            Edge hid = Edge.town(check, "90000 b91" + grudge + "0 n9000");
            hid.leaves(0, "mark", 0, 5).then("day").leaves(0, "mark", 0, 5);
        }
        Edge.town(check, "00000 b9150 n9001").leaves(0, "mark", 0, 5);
        Edge.town(check, "00000 b9050 n9000").leaves(0, "mark", 0, 5);
        Edge.town(check, "00000 b9250 n9000 n9000 n9000").leaves(0, "mark", 0, 5);
    }

    private static void markRefused(Check check) {
        String[] areOf = {"", "dp", "sb", "h", "p", "b"};
        for (char letter : LETTERS.toCharArray()) {
            Edge two = Edge.town(check, "00000 " + letter + "9150 n9000").then("person", 0, 1);
            for (int kind = 1; kind <= 5; kind++) {
                if (areOf[kind].indexOf(letter) < 0) {
                    two.finds(UNLIKE, "mark", 0, kind);
                }
                two.finds(UNLIKE, "mark", 1, kind);
            }
            for (int kind : new int[] {0, -1, 6, MIN, MAX}) {
                two.leaves(BAD, "mark", 0, kind);
            }
            for (int i : new int[] {-1, 2, MIN, MAX}) {
                two.leaves(BAD, "mark", i, 1).leaves(BAD, "mark", i, 0);
            }
        }
        Edge.fresh(check).leaves(BAD, "mark", 0, 1).leaves(BAD, "mark", 0, 0);
    }
}
