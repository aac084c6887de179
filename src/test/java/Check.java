/** Compares answers with those that are due, and ends the program with 1 if one was wrong. */
final class Check {
    static final int INVALID = -2000000001;
    static final int ILLEGAL = -2000000002;
    static final int FULL = -2000000003;
    static final int NONE = -2000000004;

    private final String title;
    private int asked = 0;
    private int wrong = 0;

    Check(String title) {
        this.title = title;
    }

    void due(String call, long got, long want) {
        asked++;
        if (got != want) {
            wrong++;
            System.out.println(title + ": " + call + " answered " + got + ", due is " + want);
        }
    }

    void holds(String what, boolean holds) {
        due(what, holds ? 1 : 0, 1);
    }

    void end() {
        System.out.println(title + ": " + asked + " answers, " + wrong + " wrong");
        if (wrong != 0) {
            System.exit(1);
        }
    }

    /** A register with the given number of members, of whom the first ones get the given shares. */
    static DairyShares register(int members, int... shares) {
        DairyShares x = new DairyShares();
        for (int m = 0; m < members; m++) {
            x.join();
        }
        for (int m = 0; m < shares.length; m++) {
            for (int left = shares[m]; left > 0; left -= 1000) {
                x.issue(m, Math.min(left, 1000));
            }
        }
        return x;
    }

    /** Lets the members from 0 to the given number less 1 vote for a new motion, and closes it. */
    static int pass(DairyShares x, int kind, int value, int voters) {
        int motion = x.propose(kind, value);
        for (int m = 0; m < voters; m++) {
            x.vote(motion, m, 1);
        }
        return x.closeMotion(motion);
    }
}
