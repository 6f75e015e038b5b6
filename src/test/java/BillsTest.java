/** Promises 15 to 24: bills. */
public final class BillsTest {
    public static void main(String[] args) {
        introduce();
        states();
        clauses();
        ranks();
        noSuchBill();
        Check.end();
    }

    private static void introduce() {
        BellParliament x = Check.chamber(2, 3);
        x.leave(1);
        for (int number : new int[] {-1, 2, Check.LOW, Check.HIGH}) {
            Check.due(15, "member " + number, Check.INDEX, () -> x.introduce(number, 0, 1));
        }
        for (int clause : new int[] {-1, 64, Check.LOW, Check.HIGH}) {
            Check.due(15, "first " + clause, Check.INDEX, () -> x.introduce(0, clause, 63));
            Check.due(15, "last " + clause, Check.INDEX, () -> x.introduce(0, 0, clause));
            Check.due(15, "first before order", Check.INDEX, () -> x.introduce(0, clause, 0));
        }
        Check.due(15, "order", Check.ARGUMENT, () -> x.introduce(0, 5, 4));
        Check.due(15, "order before presence", Check.ARGUMENT, () -> x.introduce(1, 5, 4));
        Check.due(15, "out", Check.UNSUPPORTED, () -> x.introduce(1, 4, 5));
        Check.due(16, "none", 0, x::billCount);
        for (int i = 0; i < 8; i++) {
            int bill = i;
            Check.due(15, "bill", bill, () -> x.introduce(0, bill, bill));
            Check.due(16, "count", bill + 1, x::billCount);
        }
        Check.due(15, "ninth", Check.STATE, () -> x.introduce(0, 0, 1));
        Check.due(15, "order before the limit", Check.ARGUMENT, () -> x.introduce(0, 1, 0));
        Check.due(15, "the limit before presence", Check.STATE, () -> x.introduce(1, 0, 1));
        Check.due(16, "at the limit", 8, x::billCount);
    }

    private static void states() {
        BellParliament x = Check.chamber(2, 3, 4);
        x.introduce(0, 1, 1);
        x.introduce(0, 1, 2);
        x.introduce(0, 1, 3);
        for (int reading = 0; reading < 3; reading++) {
            int had = reading;
            Check.due(17, "open", true, () -> x.isOpen(0));
            Check.due(18, "not yet", false, () -> x.isPassed(0));
            Check.due(19, "readings", had, () -> x.readings(0));
            x.voteFor(0, 0);
            x.closeReading(0);
        }
        x.voteFor(1, 0);
        x.closeReading(1);
        x.closeReading(1);
        Check.due(17, "passed", false, () -> x.isOpen(0));
        Check.due(18, "passed", true, () -> x.isPassed(0));
        Check.due(19, "passed", 3, () -> x.readings(0));
        Check.due(17, "fallen", false, () -> x.isOpen(1));
        Check.due(18, "fallen", false, () -> x.isPassed(1));
        Check.due(19, "fallen", 1, () -> x.readings(1));
        Check.due(17, "untouched", true, () -> x.isOpen(2));
        Check.due(18, "untouched", false, () -> x.isPassed(2));
        Check.due(19, "untouched", 0, () -> x.readings(2));
    }

    private static void clauses() {
        BellParliament x = Check.chamber(2, 3, 4);
        int[][] spans = {{0, 63}, {0, 0}, {63, 63}, {1, 62}, {31, 32}, {32, 63}, {0, 31}, {10, 20}};
        for (int i = 0; i < spans.length; i++) {
            int bill = i;
            int first = spans[i][0];
            int last = spans[i][1];
            x.introduce(0, first, last);
            long mask = 0;
            for (int clause = first; clause <= last; clause++) {
                mask |= 1L << clause;
            }
            Check.due(20, first + "-" + last, mask, () -> x.clauses(bill));
            Check.due(21, first + "-" + last, last - first + 1, () -> x.clauseCount(bill));
            Check.due(22, first + "-" + last, last - first + 1, () -> x.longestRun(bill));
            Check.due(23, first + "-" + last, last - first + 1, () -> x.longestRunByShift(bill));
        }
        toggle(x, 7, 13);
        Check.due(20, "hole", 0x1fdc00L, () -> x.clauses(7));
        Check.due(21, "hole", 10, () -> x.clauseCount(7));
        Check.due(22, "the longer run is above", 7, () -> x.longestRun(7));
        Check.due(23, "the longer run is above", 7, () -> x.longestRunByShift(7));
        toggle(x, 7, 15);
        toggle(x, 7, 18);
        Check.due(22, "the longest run is lowest", 3, () -> x.longestRun(7));
        Check.due(23, "the longest run is lowest", 3, () -> x.longestRunByShift(7));
        toggle(x, 1, 0);
        Check.due(20, "empty", 0L, () -> x.clauses(1));
        Check.due(21, "empty", 0, () -> x.clauseCount(1));
        Check.due(22, "empty", 0, () -> x.longestRun(1));
        Check.due(23, "empty", 0, () -> x.longestRunByShift(1));
    }

    private static void toggle(BellParliament x, int bill, int clause) {
        x.propose(bill, 2, clause);
        x.support(bill, 0, 1);
        x.decide(bill);
    }

    private static void ranks() {
        BellParliament x = Check.chamber(2, 3, 4);
        for (int i = 0; i < 5; i++) {
            x.introduce(0, 0, i);
        }
        for (int rank : new int[] {-1, 5, 8, Check.LOW, Check.HIGH}) {
            Check.due(24, "rank " + rank, Check.ELEMENT, () -> x.billAtRank(rank));
        }
        expectRanks(x, 0, 1, 2, 3, 4);
        x.ride(0, 1, 30);
        x.ride(0, 1, 29);
        expectRanks(x, 0, 1, 2, 3, 4);
        x.ride(0, 1, 1);
        expectRanks(x, 0, 2, 3, 4, 1);
        x.voteFor(3, 0);
        x.closeReading(3);
        expectRanks(x, 3, 0, 2, 4, 1);
        for (int i = 0; i < 4; i++) {
            x.ride(0, 3, 30);
        }
        expectRanks(x, 3, 0, 2, 4, 1);
        x.voteFor(4, 0);
        x.closeReading(4);
        expectRanks(x, 4, 3, 0, 2, 1);
        x.closeReading(4);
        expectRanks(x, 4, 3, 0, 2, 1);
        for (int i = 0; i < 6; i++) {
            x.ride(0, 0, 30);
        }
        expectRanks(x, 4, 3, 2, 1, 0);
    }

    private static void expectRanks(BellParliament x, int... bills) {
        for (int i = 0; i < bills.length; i++) {
            int rank = i;
            Check.due(24, "rank " + rank, bills[rank], () -> x.billAtRank(rank));
        }
    }

    private static void noSuchBill() {
        BellParliament x = Check.chamber(2);
        x.introduce(0, 0, 9);
        for (int bill : new int[] {-1, 1, 8, Check.LOW, Check.HIGH}) {
            Check.due(17, "bill " + bill, Check.INDEX, () -> x.isOpen(bill));
            Check.due(18, "bill " + bill, Check.INDEX, () -> x.isPassed(bill));
            Check.due(19, "bill " + bill, Check.INDEX, () -> x.readings(bill));
            Check.due(20, "bill " + bill, Check.INDEX, () -> x.clauses(bill));
            Check.due(21, "bill " + bill, Check.INDEX, () -> x.clauseCount(bill));
            Check.due(22, "bill " + bill, Check.INDEX, () -> x.longestRun(bill));
            Check.due(23, "bill " + bill, Check.INDEX, () -> x.longestRunByShift(bill));
        }
    }
}
