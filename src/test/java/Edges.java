import java.util.function.IntToLongFunction;

/** What the tests of single sentences need: the sentence at hand, and calls at the edges of a range. */
final class Edges {
    static final int INVALID = Check.INVALID;
    static final int ILLEGAL = Check.ILLEGAL;
    static final int FULL = Check.FULL;

    interface Call {
        long on(DairyShares x);
    }

    interface CallWith {
        long on(DairyShares x, int argument);
    }

    private final Check c;
    private final Sentences sentences;
    private String at = "";

    Edges(Check c, Sentences sentences) {
        this.c = c;
        this.sentences = sentences;
    }

    /** The sentence that the following lines test; the document must say it in this section. */
    void sentence(String section, String words) {
        at = section + ", '" + words + "'";
        c.holds(at + " stands in the document", sentences.quote(section, words));
    }

    void due(String call, long got, long want) {
        c.due(at + ": " + call, got, want);
    }

    /** A query or a refused call: it answers so and changes nothing, neither state nor history. */
    void keeps(Twins.Make make, String call, Call f, long answer) {
        DairyShares x = make.it();
        int kept = x.historySize();
        due(call, f.on(x), answer);
        due(call + " records nothing", x.historySize(), kept);
        for (int undos = 0; undos <= kept; undos++) {
            same(call + " changes nothing", Twins.difference(after(make, f), make, undos));
        }
    }

    /** An action: it answers so, records one state, and undo() brings all back that it changed. */
    void does(Twins.Make make, String call, Call f, long answer) {
        DairyShares x = make.it();
        int kept = x.historySize();
        due(call, f.on(x), answer);
        due(call + " records a state", x.historySize(), Math.min(kept + 1, 4));
        due(call + " is undone", x.undo(), Math.min(kept, 3));
        Twins.Make undone = after(after(make, f), DairyShares::undo);
        for (int undos = 0; undos <= Math.min(kept, 3); undos++) {
            same(call + " is undone whole", Twins.difference(undone, make, undos));
        }
    }

    private static Twins.Make after(Twins.Make make, Call f) {
        return () -> {
            DairyShares x = make.it();
            f.on(x);
            return x;
        };
    }

    private void same(String what, String difference) {
        c.holds(at + ": " + what + " " + difference, difference.isEmpty());
    }

    /** Refused one step below the range, one step above it, and at the ends of int. */
    void outside(Twins.Make make, String call, CallWith f, int least, int greatest) {
        for (int n : new int[] {Integer.MIN_VALUE, least - 1, greatest + 1, Integer.MAX_VALUE}) {
            keeps(make, call + " with " + n, x -> f.on(x, n), INVALID);
            // a number that is taken one step outside may lead to no end at the end of int
            if (f.on(make.it(), n) != INVALID) {
                return;
            }
        }
    }

    /** Done at both ends of the range and one step inside of each. */
    void within(Twins.Make make, String call, CallWith f, int least, int greatest, IntToLongFunction answer) {
        for (int n : new int[] {least, least + 1, greatest - 1, greatest}) {
            does(make, call + " with " + n, x -> f.on(x, n), answer.applyAsLong(n));
        }
    }

    /** A member's number one step outside, where there is no member, one, and twelve. */
    void noSuchMember(String call, CallWith f) {
        for (int members : new int[] {0, 1, 12}) {
            outside(() -> Check.register(members), call + ", member", f, 0, members - 1);
        }
    }

    /** All of the section that no test has quoted must be signs, not words. */
    void allIsQuoted(String section) {
        String rest = sentences.rest(section);
        c.holds(section + " has a sentence without a test: " + rest, !rest.matches(".*[A-Za-z0-9].*"));
    }

    /** Words that ask for nothing that a call could show. */
    void nothingToTest(String section, String words) {
        c.holds(section + " says " + words, sentences.quote(section, words));
    }
}
