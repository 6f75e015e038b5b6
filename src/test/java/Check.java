/** Compares answers with those that are due; an exception counts as the answer "throws." and its exact class. */
final class Check {
    static final String INDEX = "throws.IndexOutOfBoundsException";
    static final String ARGUMENT = "throws.IllegalArgumentException";
    static final String STATE = "throws.IllegalStateException";
    static final String ELEMENT = "throws.NoSuchElementException";
    static final String UNSUPPORTED = "throws.UnsupportedOperationException";
    static final String ARITHMETIC = "throws.ArithmeticException";

    static final int LOW = Integer.MIN_VALUE;
    static final int HIGH = Integer.MAX_VALUE;

    private static int checked = 0;
    private static int wrong = 0;

    private Check() {
    }

    interface Call {
        Object answer();
    }

    static String answerOf(Call call) {
        try {
            return String.valueOf(call.answer());
        } catch (RuntimeException e) {
            return "throws." + e.getClass().getSimpleName();
        }
    }

    static void due(int promise, String what, Object want, Call call) {
        checked++;
        String got = answerOf(call);
        if (!got.equals(String.valueOf(want))) {
            wrong++;
            System.out.println("promise " + promise + ", " + what + ": answered " + got + ", due is " + want);
        }
    }

    static int checked() {
        return checked;
    }

    static void end() {
        System.out.println(checked + " answers, " + wrong + " wrong");
        if (wrong != 0) {
            System.exit(1);
        }
    }

    /** Members 0 to n-1 with the weights given, in the wards 0, 1, 2, 3, 0, .., all of them present. */
    static BellParliament chamber(int... weights) {
        BellParliament x = new BellParliament();
        for (int i = 0; i < weights.length; i++) {
            x.addMember(i % 4, weights[i]);
            x.enter(i);
        }
        return x;
    }

    static void put(BellParliament x, String text) {
        for (char c : text.toCharArray()) {
            x.append(c);
        }
    }

    static String runText(BellParliament x, String text) {
        put(x, text);
        return answerOf(x::run);
    }

    static String line(BellParliament x) {
        StringBuilder line = new StringBuilder();
        for (int i = 0; i < 100; i++) {
            try {
                line.append(x.lineAt(i));
            } catch (IndexOutOfBoundsException e) {
                break;
            }
        }
        return line.toString();
    }

    /** All that the face tells about the state, the line and the positions left out. */
    static String stateOf(BellParliament x) {
        StringBuilder s = new StringBuilder();
        s.append(x.presentMask()).append('/').append(x.quorum()).append('/').append(x.acceptedCount());
        for (int m = 0; m < x.memberCount(); m++) {
            s.append(" m").append(x.wardOf(m)).append(',').append(x.weightOf(m));
        }
        for (int b = 0; b < x.billCount(); b++) {
            s.append(" b").append(x.isOpen(b)).append(x.isPassed(b)).append(x.readings(b)).append(',')
                    .append(x.clauses(b)).append(',').append(x.delay(b)).append(',')
                    .append(x.weightFor(b)).append(',').append(x.weightAgainst(b));
            for (int p = 0; p < x.pendingCount(b); p++) {
                s.append(" a").append(x.amendedClause(b, p)).append(',').append(x.supportWeight(b, p));
            }
        }
        return s.toString();
    }
}
