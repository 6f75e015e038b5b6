/** Each range that the document names for a parameter: all its numbers are taken, and none outside. */
final class ParameterBoundaries {
    private static final String MINUTES = "`minutes`: the number of minutes, 1 to 30";
    private static final String POSITION = "`position`: the position among the pending amendments of the bill, from 0";

    private ParameterBoundaries() {
    }

    static void test() {
        members();
        bills();
        amendments();
        rides();
        lastCall();
    }

    /** The numbers from first to last are answered, each by a new object; those outside throw the exception. */
    private static void takes(int first, int last, String exception, Boundaries.Making made,
            Boundaries.UseOfNumber call) {
        for (int n = first; n <= last; n++) {
            int number = n;
            Boundaries.due(number + " is taken", false,
                    () -> Check.answerOf(() -> call.of(made.make(), number)).startsWith("throws."));
        }
        for (int number : Boundaries.outside(first, last)) {
            Boundaries.due(number + " is refused", exception, () -> call.of(made.make(), number));
        }
    }

    private static void members() {
        Boundaries.says(2, "`ward`: the ward, 0 to 3",
                () -> takes(0, 3, Check.INDEX, Boundaries::busy, (x, ward) -> x.addMember(ward, 1)));
        Boundaries.says(2, "`weight`: the weight, 1 to 7",
                () -> takes(1, 7, Check.ARGUMENT, Boundaries::busy, (x, weight) -> x.addMember(0, weight)));
        Boundaries.says(5, "`members`: the new quorum, 1 to 24",
                () -> takes(1, 24, Check.ARGUMENT, BellParliament::new, BellParliament::setQuorum));
        Boundaries.says(13, "`ward`: the ward, 0 to 3",
                () -> takes(0, 3, Check.INDEX, BellParliament::new, BellParliament::wardWeight));
    }

    private static void bills() {
        Boundaries.says(15, "`first`: the first clause, 0 to 63",
                () -> takes(0, 63, Check.INDEX, Boundaries::busy, (x, clause) -> x.introduce(0, clause, 63)));
        Boundaries.says(15, "`last`: the last clause, 0 to 63",
                () -> takes(0, 63, Check.INDEX, Boundaries::busy, (x, clause) -> x.introduce(0, 0, clause)));
        Boundaries.says(24, "`rank`: the rank, from 0", () -> {
            for (int count = 0; count <= 8; count++) {
                int there = count;
                takes(0, there - 1, Check.ELEMENT, () -> Boundaries.bills(there), BellParliament::billAtRank);
            }
        });
    }

    private static void amendments() {
        Boundaries.says(31, "`clause`: the clause, 0 to 63",
                () -> takes(0, 63, Check.INDEX, Boundaries::busy, (x, clause) -> x.propose(0, 0, clause)));
        Boundaries.says(32, POSITION, () -> positions((x, position) -> x.support(0, position, 1)));
        Boundaries.says(35, POSITION, () -> positions((x, position) -> x.amendedClause(0, position)));
        Boundaries.says(36, POSITION, () -> positions((x, position) -> x.supportWeight(0, position)));
    }

    private static void positions(Boundaries.UseOfNumber call) {
        for (int count = 0; count <= 4; count++) {
            int there = count;
            takes(0, there - 1, Check.ELEMENT, () -> {
                BellParliament x = Boundaries.bills(1);
                for (int i = 0; i < there; i++) {
                    x.propose(0, 0, i);
                }
                return x;
            }, call);
        }
    }

    private static void rides() {
        Boundaries.says(37, MINUTES,
                () -> takes(1, 30, Check.ARGUMENT, Boundaries::busy, (x, minutes) -> x.ride(0, 0, minutes)));
        Boundaries.says(40, MINUTES,
                () -> takes(1, 30, Check.ARGUMENT, Boundaries::busy, (x, minutes) -> x.ridesUntilFall(0, minutes)));
    }

    private static void lastCall() {
        Boundaries.says(Boundaries.WHAT_IT_IS, "An object is used for at most 512 calls after it has been made", () -> {
            BellParliament x = new BellParliament();
            for (int call = 1; call <= 504; call++) {
                x.setQuorum(call % 24 + 1);
            }
            for (int left = 7; left >= 1; left--) {
                int undone = left;
                Boundaries.due("call " + (512 - left), undone, x::undo);
            }
            Boundaries.due("call 512", 497 % 24 + 1, x::quorum);
            BellParliament y = Check.chamber(1);
            for (int call = 3; call <= 511; call++) {
                Check.answerOf(() -> y.introduce(0, 0, 63));
            }
            Boundaries.due("call 512, of which most were refused", 8, y::billCount);
        });
    }
}
