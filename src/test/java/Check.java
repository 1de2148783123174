/** What every test here shares: counting wrong answers, and towns told by a string. */
final class Check {
    private final String name;
    private int answers = 0;
    private int wrong = 0;

    Check(String name) {
        this.name = name;
    }

    void due(String call, long got, long want) {
        answers++;
        if (got != want) {
            wrong++;
            System.out.println(name + ": " + call + " answered " + got + ", due is " + want);
        }
    }

    /** A call that must be refused with a FINDING, told by finding() and counted by findings(). */
    void finds(AshGreetings x, String call, int before, int got, int which) {
        due(call, got, AshGreetings.FINDING);
        due(call + ", finding()", x.finding(), which);
        due(call + ", findings(" + which + ")", x.findings(which), before + 1);
    }

    void told(AshGreetings x, String call, int got, int want, int wantAsked) {
        due(call, got, want);
        due(call + ", asked()", x.asked(), wantAsked);
    }

    void end() {
        if (wrong != 0) {
            System.out.println(name + ": " + wrong + " of " + answers + " answers are not as due");
            System.exit(1);
        }
        System.out.println(name + ": all " + answers + " answers are as due");
    }

    static void write(AshGreetings x, int t, String said) {
        x.text(t, said.length());
        for (int i = 0; i < said.length(); i++) {
            x.put(t, i, said.charAt(i));
        }
    }

    static AshGreetings townOf(String said) {
        AshGreetings x = new AshGreetings();
        write(x, 0, said);
        x.town(0);
        return x;
    }

    static void fillRow(AshGreetings x, int r, int... values) {
        x.row(r, values.length);
        for (int i = 0; i < values.length; i++) {
            x.lay(r, i, values[i]);
        }
    }
}
