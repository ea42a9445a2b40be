import java.math.BigInteger;

/** What tests of the program share: answers compared with those due, and calls that are refused. */
abstract class Checks {
    static final String INDEX = "IndexOutOfBoundsException";
    static final String ARGUMENT = "IllegalArgumentException";
    static final String STATE = "IllegalStateException";
    static final String NOTHING = "nothing";
    static final int FAR_DOWN = Integer.MIN_VALUE;
    static final int FAR_UP = Integer.MAX_VALUE;

    private static int asked = 0;
    private static int wrong = 0;

    interface Maker {
        RuinViews make();
    }

    interface Call {
        void on(RuinViews x);
    }

    static void due(String what, long got, long want) {
        due(what, String.valueOf(got), String.valueOf(want));
    }

    static void due(String what, boolean got, boolean want) {
        due(what, got ? 1 : 0, want ? 1 : 0);
    }

    static void due(String what, String got, String want) {
        asked++;
        if (!got.equals(want)) {
            wrong++;
            if (wrong <= 40) {
                System.out.println(what + " is " + got + ", due is " + want);
            }
        }
    }

    static void dueDouble(String what, double got, double want) {
        due(what, String.valueOf(got), String.valueOf(want));
    }

    /** The call throws exactly this exception, or nothing, and if it throws, it changes nothing. */
    static void thrown(String what, Maker maker, String want, Call call) {
        RuinViews x = maker.make();
        due("what " + what + " throws", thrownBy(() -> call.on(x)), want);
        if (!want.equals(NOTHING)) {
            // What a machine hides (what was paid for a ticket, say) shows only in the days to come:
            // so a twin without the refused call is followed as well.
            due("what comes after " + what, future(x), future(maker.make()));
        }
    }

    /** As above, on a machine that the test goes on with. */
    static void refused(String what, RuinViews x, String want, Runnable call) {
        String before = state(x);
        due("what " + what + " throws", thrownBy(call), want);
        due("what is after " + what, state(x), before);
    }

    private static String thrownBy(Runnable call) {
        try {
            call.run();
        } catch (RuntimeException e) {
            return e.getClass().getSimpleName();
        }
        return NOTHING;
    }

    private static String state(RuinViews x) {
        return x.digest() + " " + guestsOfMachine(x) + " " + x.purseIn(60);
    }

    private static String future(RuinViews x) {
        StringBuilder b = new StringBuilder(state(x));
        for (int day = 0; day <= 31; day++) {
            x.pass(1);
            b.append(' ').append(x.digest());
        }
        return b.toString();
    }

    static int guestsOfMachine(RuinViews x) {
        int guests = x.setGuests(0);
        x.setGuests(guests);
        return guests;
    }

    static RuinViews withRuin(int walls, int ivy, int ghosts, int price) {
        RuinViews x = new RuinViews();
        x.addRuin(walls, ivy, ghosts, price);
        return x;
    }

    static RuinViews withCollapsed() {
        RuinViews x = withRuin(1, 12, 2, 4);
        x.pass(1);
        return x;
    }

    static RuinViews onDay(int day) {
        RuinViews x = new RuinViews();
        for (int i = 0; i < day; i++) {
            x.pass(1);
        }
        return x;
    }

    /** The digest's numbers, reckoned without bound and wrapped only at the end. */
    static long wrapped(long[] numbers) {
        BigInteger d = BigInteger.valueOf(2029);
        for (long x : numbers) {
            d = d.multiply(BigInteger.valueOf(31)).add(BigInteger.valueOf(x));
        }
        return d.longValue();
    }

    static void end(String good) {
        System.out.println(wrong == 0 ? good + " (" + asked + " answers)" : wrong + " answers are wrong");
        if (wrong != 0) {
            System.exit(1);
        }
    }
}
