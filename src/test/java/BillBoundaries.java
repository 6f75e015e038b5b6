/** Boundaries of promises 15 to 24, and of what the terms say of bills. */
final class BillBoundaries {
    private static final String NO_BILL = "Throws `IndexOutOfBoundsException` if there is no such bill";

    private BillBoundaries() {
    }

    static void test() {
        terms();
        passedAndFallen();
        introduce();
        billQueries();
        clauses();
        runs();
        ranks();
    }

    private static void terms() {
        Boundaries.says(Boundaries.TERMS, "There are at most 8 bills, numbered from 0.", () -> {
            BellParliament x = Check.chamber(1);
            for (int i = 0; i < 8; i++) {
                int bill = i;
                Boundaries.due("number", bill, () -> x.introduce(0, 0, 0));
            }
            Boundaries.due("one more", Check.STATE, () -> x.introduce(0, 0, 0));
            Boundaries.due("in all", 8, x::billCount);
        });
        Boundaries.says(Boundaries.TERMS, "a set of clauses, which are numbers from 0 to 63", () -> {
            BellParliament x = Check.chamber(1);
            x.setQuorum(1);
            Boundaries.due("the first alone", 0, () -> x.introduce(0, 0, 0));
            Boundaries.due("the last alone", 1, () -> x.introduce(0, 63, 63));
            Boundaries.due("the first", 1L, () -> x.clauses(0));
            Boundaries.due("the last", Long.MIN_VALUE, () -> x.clauses(1));
            for (int clause : Boundaries.outside(64)) {
                Boundaries.due("introduced " + clause, Check.INDEX, () -> x.introduce(0, clause, clause));
                Boundaries.due("proposed " + clause, Check.INDEX, () -> x.propose(0, 0, clause));
            }
        });
        Boundaries.says(Boundaries.TERMS, "The numbers of readings and minutes are initially 0.", () -> {
            BellParliament x = Boundaries.bills(8);
            for (int i = 0; i < 8; i++) {
                int bill = i;
                Boundaries.due("readings", 0, () -> x.readings(bill));
                Boundaries.due("minutes", 0, () -> x.delay(bill));
                Boundaries.due("rust", 0, () -> x.rust(bill));
            }
            x.setQuorum(1);
            x.ride(0, 7, 30);
            x.voteFor(7, 0);
            x.closeReading(7);
            for (int i = 0; i < 5; i++) {
                x.undo();
            }
            x.introduce(0, 1, 1);
            Boundaries.due("readings in the place of an undone bill", 0, () -> x.readings(7));
            Boundaries.due("minutes in the place of an undone bill", 0, () -> x.delay(7));
        });
        Boundaries.says(Boundaries.TERMS, "The rust of a bill is its delay divided by 60, rounded down.", () -> {
            BellParliament x = Boundaries.bills(1);
            for (int i = 1; i <= 180; i++) {
                int minutes = i;
                Boundaries.due("at " + i, minutes / 60, () -> x.ride(0, 0, 1));
                Boundaries.due("then " + i, minutes / 60, () -> x.rust(0));
            }
        });
        Boundaries.says(Boundaries.TERMS, "A bill is passed when it has had 3 readings with success.", () -> {
            BellParliament x = Check.chamber(1, 1, 1);
            x.introduce(0, 3, 5);
            for (int reading = 0; reading < 3; reading++) {
                Boundaries.due("after " + reading, "true false", () -> x.isOpen(0) + " " + x.isPassed(0));
                x.voteFor(0, 0);
                x.closeReading(0);
            }
            Boundaries.due("after 3", "false true", () -> x.isOpen(0) + " " + x.isPassed(0));
        });
        Boundaries.says(Boundaries.TERMS, "A bill with a rust of 3 or more falls at once.", () -> {
            for (int minutes = 1; minutes <= 30; minutes++) {
                BellParliament x = delayed(179);
                int last = minutes;
                Boundaries.due("at 179", true, () -> x.isOpen(0));
                Boundaries.due("by " + minutes, 3, () -> x.ride(0, 0, last));
                Boundaries.due("at " + (179 + minutes), "false false 1",
                        () -> x.isOpen(0) + " " + x.isPassed(0) + " " + x.fallenCount());
            }
        });
    }

    private static BellParliament delayed(int minutes) {
        BellParliament x = Boundaries.bills(1);
        int left = minutes;
        while (left > 0) {
            x.ride(0, 0, Math.min(left, 30));
            left -= Math.min(left, 30);
        }
        return x;
    }

    private static void passedAndFallen() {
        Boundaries.says(Boundaries.TERMS, "Passed and fallen bills never change again.", () -> {
            for (int bill = 1; bill <= 2; bill++) {
                int done = bill;
                Boundaries.refused("vote for " + bill, Check.STATE, Boundaries::busy, x -> x.voteFor(done, 0));
                Boundaries.refused("vote against " + bill, Check.STATE, Boundaries::busy, x -> x.voteAgainst(done, 0));
                Boundaries.refused("close " + bill, Check.STATE, Boundaries::busy, x -> x.closeReading(done));
                Boundaries.refused("propose " + bill, Check.STATE, Boundaries::busy, x -> x.propose(done, 0, 1));
                Boundaries.refused("support " + bill, Check.STATE, Boundaries::busy, x -> x.support(done, 0, 0));
                Boundaries.refused("decide " + bill, Check.STATE, Boundaries::busy, x -> x.decide(done));
                Boundaries.refused("ride " + bill, Check.STATE, Boundaries::busy, x -> x.ride(0, done, 1));
            }
            BellParliament x = Boundaries.busy();
            x.run();
            String before = Boundaries.stateOf(x);
            for (String text : new String[] {"yes 1 0", "no 2 0", "close 1", "amend 2 0 1", "support 10 0", "decide 2",
                "ride 0 1 1"}) {
                Boundaries.due(text, Check.STATE, () -> Check.runText(x, text));
            }
            Boundaries.due("as before", before.replace("f1 l", "f0 l"), () -> Boundaries.stateOf(x));
        });
        Boundaries.says(Boundaries.TERMS,
                "When a bill is passed or falls, its pending amendments and its votes are removed.", () -> {
            BellParliament x = delayed(179);
            for (int i = 0; i < 4; i++) {
                x.propose(0, 0, i);
            }
            x.voteFor(0, 0);
            x.voteAgainst(0, 1);
            x.ride(0, 0, 1);
            Boundaries.due("rusted", "0 0 0 0", () -> votesAndPending(x, 0));
            Boundaries.due("position 0", Check.ELEMENT, () -> x.amendedClause(0, 0));
            Boundaries.due("share", Check.ARITHMETIC, () -> x.shareBits(0));
            x.setQuorum(1);
            x.introduce(0, 0, 0);
            x.voteFor(1, 1);
            x.voteAgainst(1, 0);
            x.closeReading(1);
            Boundaries.due("voted down", "0 0 0 0", () -> votesAndPending(x, 1));
            x.introduce(0, 0, 0);
            for (int reading = 0; reading < 3; reading++) {
                x.voteFor(2, 0);
                x.voteAgainst(2, 1);
                x.closeReading(2);
            }
            Boundaries.due("passed", true, () -> x.isPassed(2));
            Boundaries.due("passed", "0 0 0 0", () -> votesAndPending(x, 2));
            Boundaries.due("clauses stay", 56L, () -> x.clauses(0));
        });
    }

    private static String votesAndPending(BellParliament x, int bill) {
        return x.weightFor(bill) + " " + x.weightForByDigits(bill) + " " + x.weightAgainst(bill) + " "
                + x.pendingCount(bill);
    }

    private static void introduce() {
        Boundaries.says(15, "Introduces an open bill.", () -> {
            BellParliament x = Boundaries.bills(8);
            for (int i = 0; i < 8; i++) {
                int bill = i;
                Boundaries.due("bill " + i, "true false", () -> x.isOpen(bill) + " " + x.isPassed(bill));
                Boundaries.due("bill " + i, "0 0 0 0", () -> votesAndPending(x, bill));
            }
        });
        Boundaries.says(15, "Returns the number of the bill, which has all clauses from the first to the last one.",
                () -> {
            for (int first = 0; first < 64; first++) {
                BellParliament x = Check.chamber(1);
                for (int last = first; last < 64; last++) {
                    if (x.billCount() == 8) {
                        x = Check.chamber(1);
                    }
                    allClauses(x, first, last);
                }
            }
        });
        Boundaries.says(15, "Throws `IndexOutOfBoundsException` if there is no such member, "
                + "or a clause is not from 0 to 63", () -> {
            Boundaries.refused("nobody there", Check.INDEX, BellParliament::new, x -> x.introduce(0, 0, 0));
            Boundaries.refusedNumbers("member", Check.INDEX, Boundaries::busy, Boundaries.outside(4),
                    (x, member) -> x.introduce(member, 0, 0));
            Boundaries.refusedNumbers("of 24", Check.INDEX, Boundaries::fullChamber, Boundaries.outside(24),
                    (x, member) -> x.introduce(member, 0, 0));
            Boundaries.refusedNumbers("first", Check.INDEX, Boundaries::busy, Boundaries.outside(64),
                    (x, clause) -> x.introduce(0, clause, 63));
            Boundaries.refusedNumbers("last", Check.INDEX, Boundaries::busy, Boundaries.outside(64),
                    (x, clause) -> x.introduce(0, 0, clause));
            Boundaries.refused("both", Check.INDEX, Boundaries::busy, x -> x.introduce(0, Check.LOW, Check.HIGH));
            Boundaries.due("member 23, clauses 0 and 63", 0, () -> Boundaries.fullChamber().introduce(23, 0, 63));
        });
        Boundaries.says(15, "Throws `IllegalArgumentException` if the first clause is greater than the last one",
                () -> {
            Boundaries.refused("by one", Check.ARGUMENT, Boundaries::busy, x -> x.introduce(0, 32, 31));
            Boundaries.refused("by one, low", Check.ARGUMENT, Boundaries::busy, x -> x.introduce(0, 1, 0));
            Boundaries.refused("by all", Check.ARGUMENT, Boundaries::busy, x -> x.introduce(0, 63, 0));
            Boundaries.due("equal", 3, () -> Boundaries.busy().introduce(0, 31, 31));
        });
        Boundaries.says(15, "Throws `IllegalStateException` if there are 8 bills", () -> {
            Boundaries.refused("the ninth", Check.STATE, () -> Boundaries.bills(8), x -> x.introduce(0, 0, 0));
            Boundaries.due("the eighth", 7, () -> Boundaries.bills(7).introduce(0, 0, 0));
            BellParliament x = Boundaries.bills(8);
            x.setQuorum(1);
            for (int bill = 0; bill < 8; bill++) {
                x.closeReading(bill);
            }
            Boundaries.due("8 fallen ones", Check.STATE, () -> x.introduce(0, 0, 0));
        });
        Boundaries.says(15, "Throws `UnsupportedOperationException` if the member is not present", () -> {
            Boundaries.refused("out", Check.UNSUPPORTED, Boundaries::busy, x -> x.introduce(3, 0, 0));
            Boundaries.refused("the last", Check.UNSUPPORTED, () -> Boundaries.members(24, 1),
                    x -> x.introduce(23, 0, 0));
            Boundaries.due("in, without a quorum", 0, () -> Check.chamber(1).introduce(0, 0, 0));
        });
    }

    private static void allClauses(BellParliament x, int first, int last) {
        int bill = x.billCount();
        long mask = 0;
        for (int clause = first; clause <= last; clause++) {
            mask |= 1L << clause;
        }
        Boundaries.due(first + "-" + last, bill, () -> x.introduce(0, first, last));
        Boundaries.due(first + "-" + last, mask, () -> x.clauses(bill));
    }

    private static void billQueries() {
        Boundaries.says(16, "Returns the number of bills.", () -> {
            Boundaries.due("none", 0, () -> new BellParliament().billCount());
            Boundaries.due("one", 1, () -> Boundaries.bills(1).billCount());
            Boundaries.due("all", 8, () -> Boundaries.bills(8).billCount());
        });
        Boundaries.says(17, NO_BILL, () -> noBill(BellParliament::isOpen, true));
        Boundaries.says(18, NO_BILL, () -> noBill(BellParliament::isPassed, false));
        Boundaries.says(19, NO_BILL, () -> noBill(BellParliament::readings, 0));
        Boundaries.says(20, NO_BILL, () -> noBill(BellParliament::clauses, 56L));
        Boundaries.says(21, NO_BILL, () -> noBill(BellParliament::clauseCount, 3));
        Boundaries.says(22, NO_BILL, () -> noBill(BellParliament::longestRun, 3));
        Boundaries.says(23, NO_BILL, () -> noBill(BellParliament::longestRunByShift, 3));
        Boundaries.says(17, "Returns whether it is open.", () -> {
            BellParliament x = Boundaries.busy();
            Boundaries.due("open", true, () -> x.isOpen(0));
            Boundaries.due("fallen", false, () -> x.isOpen(1));
            Boundaries.due("passed", false, () -> x.isOpen(2));
        });
        Boundaries.says(18, "Returns whether it is passed.", () -> {
            BellParliament x = Boundaries.busy();
            Boundaries.due("open", false, () -> x.isPassed(0));
            Boundaries.due("fallen", false, () -> x.isPassed(1));
            Boundaries.due("passed", true, () -> x.isPassed(2));
        });
        Boundaries.says(19, "Returns the number of readings, 0 to 3.", () -> {
            BellParliament x = Check.chamber(1, 1, 1);
            x.introduce(0, 0, 0);
            for (int i = 0; i <= 3; i++) {
                int had = i;
                Boundaries.due("after " + i, had, () -> x.readings(0));
                Check.answerOf(() -> x.voteFor(0, 0));
                Check.answerOf(() -> x.closeReading(0));
            }
            Boundaries.due("never a fourth", 3, () -> x.readings(0));
            x.introduce(0, 0, 0);
            x.voteFor(1, 0);
            x.closeReading(1);
            x.closeReading(1);
            Boundaries.due("one without success", 1, () -> x.readings(1));
        });
    }

    /** What every query of a bill has to refuse, and its answer for the eighth bill. */
    static void noBill(Boundaries.UseOfNumber query, Object ofTheLast) {
        Boundaries.refused("no bill there", Check.INDEX, BellParliament::new, x -> query.of(x, 0));
        Boundaries.refusedNumbers("bill", Check.INDEX, Boundaries::busy, Boundaries.outside(3), query);
        Boundaries.refusedNumbers("of 8", Check.INDEX, () -> Boundaries.bills(8), Boundaries.outside(8), query);
        Boundaries.due("the last", ofTheLast, () -> query.of(Boundaries.bills(8), 7));
        Boundaries.due("after undo", Check.INDEX, () -> {
            BellParliament x = Boundaries.bills(8);
            x.undo();
            return query.of(x, 7);
        });
    }

    private static void clauses() {
        Boundaries.says(20, "bit k is set if the bill has the clause k", () -> {
            for (int clause = 0; clause < 64; clause++) {
                BellParliament x = Check.chamber(1);
                x.setQuorum(1);
                x.introduce(0, clause, clause);
                long mask = 1L << clause;
                Boundaries.due("alone " + clause, mask, () -> x.clauses(0));
                Boundaries.turn(x, 0, clause);
                Boundaries.due("removed " + clause, 0L, () -> x.clauses(0));
                x.introduce(0, 0, 63);
                Boundaries.turn(x, 1, clause);
                Boundaries.due("all but " + clause, ~mask, () -> x.clauses(1));
            }
        });
        Boundaries.says(21, "Returns the number of clauses of a bill.", () -> {
            BellParliament x = withClauses();
            Boundaries.due("none", 0, () -> x.clauseCount(0));
            x.introduce(0, 63, 63);
            Boundaries.due("one", 1, () -> x.clauseCount(1));
            x.introduce(0, 0, 63);
            Boundaries.due("all", 64, () -> x.clauseCount(2));
            Boundaries.turn(x, 2, 63);
            Boundaries.due("all but the last", 63, () -> x.clauseCount(2));
        });
    }

    /** One heavy member; bill 0 has the clauses given and no others. */
    private static BellParliament withClauses(int... clauses) {
        BellParliament x = Check.chamber(7);
        x.setQuorum(1);
        x.introduce(0, 0, 0);
        Boundaries.turn(x, 0, 0);
        for (int clause : clauses) {
            Boundaries.turn(x, 0, clause);
        }
        return x;
    }

    private static void runs() {
        Boundaries.says(22, "Returns the length, 0 without clauses.", () -> everyRun(BellParliament::longestRun));
        Boundaries.says(23, "Returns the same length as longestRun(), found by shifting the bit mask.",
                () -> everyRun(BellParliament::longestRunByShift));
    }

    private static void everyRun(Boundaries.UseOfNumber length) {
        Boundaries.due("none", 0, () -> length.of(withClauses(), 0));
        Boundaries.due("first and last are no run", 1, () -> length.of(withClauses(0, 63), 0));
        Boundaries.due("0, 62 and 63", 2, () -> length.of(withClauses(0, 62, 63), 0));
        Boundaries.due("31 and 32", 2, () -> length.of(withClauses(31, 32), 0));
        Boundaries.due("the first of two even ones", 2, () -> length.of(withClauses(0, 1, 62, 63), 0));
        Boundaries.due("three after two", 3, () -> length.of(withClauses(0, 1, 3, 4, 5), 0));
        Boundaries.due("three before two", 3, () -> length.of(withClauses(0, 1, 2, 62, 63), 0));
        Boundaries.due("every second one", 1, () -> length.of(withClauses(1, 3, 5, 7, 59, 61, 63), 0));
        for (int n = 1; n <= 64; n++) {
            int count = n;
            BellParliament x = Check.chamber(7);
            x.setQuorum(1);
            x.introduce(0, 0, n - 1);
            x.introduce(0, 64 - n, 63);
            x.introduce(0, 0, 63);
            Boundaries.turn(x, 2, n - 1);
            Boundaries.due("at the beginning", count, () -> length.of(x, 0));
            Boundaries.due("at the end", count, () -> length.of(x, 1));
            Boundaries.due("all but " + (n - 1), Math.max(count - 1, 64 - count), () -> length.of(x, 2));
        }
    }

    private static void ranks() {
        Boundaries.says(24, "Returns the bill at a rank: the bill with more readings first; of bills with as many "
                + "readings the one with less rust first; then the one with the lower number first.", () -> {
            Boundaries.due("all even", "01234567", () -> order(Boundaries.bills(8)));
            BellParliament x = Check.chamber(1, 1, 1);
            for (int bill = 0; bill < 8; bill++) {
                x.introduce(0, 3, 5);
            }
            delayTo(x, 0, 60);
            delayTo(x, 1, 59);
            delayTo(x, 2, 120);
            delayTo(x, 3, 119);
            delayTo(x, 5, 180);
            for (int reading = 0; reading < 3; reading++) {
                x.voteFor(7, 0);
                x.closeReading(7);
            }
            x.voteFor(2, 0);
            x.closeReading(2);
            Boundaries.due("3 readings, 1 with a rust of 2, then by rust and number", "72146035", () -> order(x));
        });
        Boundaries.says(24, "Throws `NoSuchElementException` if there is no such rank", () -> {
            Boundaries.refused("no bill there", Check.ELEMENT, BellParliament::new, x -> x.billAtRank(0));
            Boundaries.refusedNumbers("rank", Check.ELEMENT, Boundaries::busy, Boundaries.outside(3),
                    BellParliament::billAtRank);
            Boundaries.refusedNumbers("of 8", Check.ELEMENT, () -> Boundaries.bills(8), Boundaries.outside(8),
                    BellParliament::billAtRank);
            Boundaries.due("the last", 7, () -> Boundaries.bills(8).billAtRank(7));
        });
    }

    private static void delayTo(BellParliament x, int bill, int minutes) {
        while (x.delay(bill) < minutes) {
            x.ride(0, bill, Math.min(30, minutes - x.delay(bill)));
        }
    }

    private static String order(BellParliament x) {
        StringBuilder order = new StringBuilder();
        for (int rank = 0; rank < x.billCount(); rank++) {
            order.append(x.billAtRank(rank));
        }
        return order.toString();
    }
}
