/** Boundaries of promises 31 to 36, and of what the terms say of amendments. */
final class AmendmentBoundaries {
    private static final String NO_BILL = "Throws `IndexOutOfBoundsException` if there is no such bill";
    private static final String NO_POSITION = "Throws `NoSuchElementException` if there is no such position";
    private static final String NOT_OPEN = "Throws `IllegalStateException` if the bill is not open";
    private static final String OUT = "Throws `UnsupportedOperationException` if the member is not present";

    private AmendmentBoundaries() {
    }

    static void test() {
        terms();
        propose();
        proposeRefused();
        support();
        supportRefused();
        decide();
        decideRefused();
        queries();
    }

    /** Bill 0 has the clauses 0 to 9 and as many pending amendments as given, by the members 0, 1, 2, 0. */
    private static BellParliament pending(int count) {
        BellParliament x = Check.chamber(4, 2, 1, 7);
        x.leave(3);
        x.introduce(0, 0, 9);
        for (int i = 0; i < count; i++) {
            x.propose(0, i % 3, 20 + i);
        }
        return x;
    }

    private static void terms() {
        Boundaries.says(Boundaries.TERMS, "At most 4 amendments to a bill are pending.", () -> {
            BellParliament x = pending(0);
            x.introduce(0, 0, 9);
            for (int i = 0; i < 4; i++) {
                int position = i;
                Boundaries.due("proposed", position, () -> x.propose(0, 0, 63));
            }
            Boundaries.due("one more", Check.STATE, () -> x.propose(0, 0, 63));
            Boundaries.due("in all", 4, () -> x.pendingCount(0));
            Boundaries.due("to another bill", 0, () -> x.propose(1, 0, 63));
        });
        Boundaries.says(Boundaries.TERMS,
                "They are kept in the order in which they were proposed, and decided in this order.", () -> {
            BellParliament x = pending(4);
            Boundaries.due("full", "20,4 21,2 22,1 23,4 ", () -> order(x));
            Boundaries.due("heavy enough", true, () -> x.decide(0));
            Boundaries.due("three", "21,2 22,1 23,4 ", () -> order(x));
            Boundaries.due("too light", false, () -> x.decide(0));
            Boundaries.due("at the end", 2, () -> x.propose(0, 1, 0));
            Boundaries.due("three again", "22,1 23,4 0,2 ", () -> order(x));
            x.decide(0);
            x.decide(0);
            x.decide(0);
            Boundaries.due("none", "", () -> order(x));
            Boundaries.due("20 and 23 were accepted", 0x9003ffL, () -> x.clauses(0));
        });
    }

    private static String order(BellParliament x) {
        StringBuilder order = new StringBuilder();
        for (int position = 0; position < x.pendingCount(0); position++) {
            order.append(x.amendedClause(0, position)).append(',').append(x.supportWeight(0, position)).append(' ');
        }
        return order.toString();
    }

    private static void propose() {
        Boundaries.says(31, "Proposes an amendment that adds a clause to a bill if the bill does not have it when the "
                + "amendment is decided, and that removes it otherwise.", () -> {
            for (int clause = 0; clause < 64; clause++) {
                BellParliament x = Check.chamber(1);
                x.setQuorum(1);
                x.introduce(0, 32, 40);
                long before = x.clauses(0);
                long turned = before ^ 1L << clause;
                for (int i = 0; i < 3; i++) {
                    x.propose(0, 0, clause);
                }
                Boundaries.due("proposed " + clause, before, () -> x.clauses(0));
                x.decide(0);
                Boundaries.due("turned " + clause, turned, () -> x.clauses(0));
                x.decide(0);
                Boundaries.due("turned back " + clause, before, () -> x.clauses(0));
                x.decide(0);
                Boundaries.due("turned again " + clause, turned, () -> x.clauses(0));
            }
        });
        Boundaries.says(31, "The member who proposes it is the first supporter.", () -> {
            Boundaries.due("the first member", 4, () -> pending(1).supportWeight(0, 0));
            BellParliament x = Boundaries.fullChamber();
            x.introduce(0, 0, 0);
            x.propose(0, 23, 0);
            Boundaries.due("the last member", 7, () -> x.supportWeight(0, 0));
            BellParliament y = pending(4);
            y.support(0, 0, 1);
            y.decide(0);
            y.propose(0, 2, 1);
            Boundaries.due("alone in the place of a decided one", 1, () -> y.supportWeight(0, 3));
        });
        Boundaries.says(31, "Returns the position of the amendment.", () -> {
            for (int count = 0; count < 4; count++) {
                int before = count;
                Boundaries.due("behind " + count, before, () -> pending(before).propose(0, 0, 0));
            }
            Boundaries.due("after one of four is decided", 3, () -> {
                BellParliament x = pending(4);
                x.decide(0);
                return x.propose(0, 0, 0);
            });
        });
    }

    private static void proposeRefused() {
        Boundaries.says(31, "Throws `IndexOutOfBoundsException` if there is no such bill or member, "
                + "or the clause is not from 0 to 63", () -> {
            Boundaries.refused("nothing there", Check.INDEX, BellParliament::new, x -> x.propose(0, 0, 0));
            Boundaries.refusedNumbers("bill", Check.INDEX, Boundaries::busy, Boundaries.outside(3),
                    (x, bill) -> x.propose(bill, 0, 0));
            Boundaries.refusedNumbers("of 8", Check.INDEX, () -> Boundaries.bills(8), Boundaries.outside(8),
                    (x, bill) -> x.propose(bill, 0, 0));
            Boundaries.refusedNumbers("member", Check.INDEX, Boundaries::busy, Boundaries.outside(4),
                    (x, member) -> x.propose(0, member, 0));
            Boundaries.refusedNumbers("clause", Check.INDEX, Boundaries::busy, Boundaries.outside(64),
                    (x, clause) -> x.propose(0, 0, clause));
            Boundaries.due("clause 0", 2, () -> Boundaries.busy().propose(0, 0, 0));
            Boundaries.due("clause 63", 2, () -> Boundaries.busy().propose(0, 0, 63));
            Boundaries.due("the last bill", 0, () -> Boundaries.bills(8).propose(7, 1, 63));
        });
        Boundaries.says(31, "Throws `IllegalStateException` if the bill is not open, "
                + "or 4 amendments to it are pending", () -> {
            Boundaries.refused("fallen", Check.STATE, Boundaries::busy, x -> x.propose(1, 0, 0));
            Boundaries.refused("passed", Check.STATE, Boundaries::busy, x -> x.propose(2, 0, 0));
            Boundaries.refused("four", Check.STATE, () -> pending(4), x -> x.propose(0, 0, 0));
            Boundaries.due("three", 3, () -> pending(3).propose(0, 0, 0));
        });
        Boundaries.says(31, OUT, () -> {
            Boundaries.refused("out", Check.UNSUPPORTED, Boundaries::busy, x -> x.propose(0, 3, 0));
            Boundaries.due("without a quorum", 0, () -> Boundaries.bills(1).propose(0, 0, 0));
        });
    }

    private static void support() {
        Boundaries.says(32, "A member who supports it already goes on to do so.", () -> {
            BellParliament x = pending(2);
            Boundaries.due("who proposed it", 4, () -> x.support(0, 0, 0));
            Boundaries.due("another one", 6, () -> x.support(0, 0, 1));
            Boundaries.due("the same one again", 6, () -> x.support(0, 0, 1));
            Boundaries.due("then", 6, () -> x.supportWeight(0, 0));
            Boundaries.due("the amendment behind", 2, () -> x.supportWeight(0, 1));
        });
        Boundaries.says(32, "Returns the weight of all supporters of the amendment after the call.", () -> {
            BellParliament x = Boundaries.fullChamber();
            x.introduce(0, 0, 0);
            for (int i = 0; i < 4; i++) {
                x.propose(0, 0, i);
            }
            for (int i = 1; i < 24; i++) {
                int member = i;
                Boundaries.due("up to " + i, 7 * (i + 1), () -> x.support(0, 3, member));
            }
            Boundaries.due("in the first position", 14, () -> x.support(0, 0, 23));
        });
    }

    private static void supportRefused() {
        Boundaries.says(32, "Throws `IndexOutOfBoundsException` if there is no such bill or member", () -> {
            Boundaries.refused("nothing there", Check.INDEX, BellParliament::new, x -> x.support(0, 0, 0));
            Boundaries.refusedNumbers("bill", Check.INDEX, Boundaries::busy, Boundaries.outside(3),
                    (x, bill) -> x.support(bill, 0, 0));
            Boundaries.refusedNumbers("of 8", Check.INDEX, () -> Boundaries.bills(8), Boundaries.outside(8),
                    (x, bill) -> x.support(bill, 0, 0));
            Boundaries.refusedNumbers("member", Check.INDEX, Boundaries::busy, Boundaries.outside(4),
                    (x, member) -> x.support(0, 0, member));
        });
        Boundaries.says(32, NOT_OPEN, () -> {
            Boundaries.refused("fallen", Check.STATE, Boundaries::busy, x -> x.support(1, 0, 0));
            Boundaries.refused("passed", Check.STATE, Boundaries::busy, x -> x.support(2, 0, 0));
        });
        Boundaries.says(32, NO_POSITION, () -> {
            for (int count = 0; count <= 4; count++) {
                int there = count;
                Boundaries.refusedNumbers(count + " pending, position", Check.ELEMENT, () -> pending(there),
                        Boundaries.outside(there), (x, position) -> x.support(0, position, 0));
            }
            Boundaries.due("the last of four", 5, () -> pending(4).support(0, 3, 2));
            Boundaries.refused("decided", Check.ELEMENT, () -> {
                BellParliament x = pending(4);
                x.decide(0);
                return x;
            }, x -> x.support(0, 3, 0));
        });
        Boundaries.says(32, OUT, () -> {
            Boundaries.refused("out", Check.UNSUPPORTED, Boundaries::busy, x -> x.support(0, 0, 3));
            Boundaries.refused("who supports it already", Check.UNSUPPORTED, () -> {
                BellParliament x = pending(1);
                x.leave(0);
                return x;
            }, x -> x.support(0, 0, 0));
        });
    }

    private static void decide() {
        Boundaries.says(33, "It is accepted if twice the weight of its supporters is greater than the weight of all "
                + "present members.", () -> {
            for (int set = 1; set < 8; set += 2) {
                BellParliament x = Check.chamber(1, 2, 4);
                x.introduce(0, 0, 0);
                x.propose(0, 0, 5);
                for (int member = 1; member < 3; member++) {
                    if ((set >> member & 1) == 1) {
                        x.support(0, 0, member);
                    }
                }
                boolean accepted = 2 * set > 7;
                Boundaries.due(set + " of 7", accepted, () -> x.decide(0));
            }
            Boundaries.due("4 of 8", false, () -> decideWith(4, 3, 1));
            Boundaries.due("4 of 7", true, () -> decideWith(4, 2, 1));
            Boundaries.due("4 of 9", false, () -> decideWith(4, 4, 1));
            BellParliament x = Boundaries.fullChamber();
            x.introduce(0, 0, 0);
            x.propose(0, 0, 5);
            for (int member = 1; member < 12; member++) {
                x.support(0, 0, member);
            }
            Boundaries.due("84 of 168", false, () -> x.decide(0));
            x.undo();
            x.support(0, 0, 12);
            Boundaries.due("91 of 168", true, () -> x.decide(0));
        });
        Boundaries.says(33, "Decides the first pending amendment to a bill, which is not pending any more.", () -> {
            BellParliament x = pending(4);
            Boundaries.due("accepted", "true 3 1023", () -> x.decide(0) + " " + x.pendingCount(0) + " "
                    + (x.clauses(0) & 0x3ff));
            Boundaries.due("the first is another", 21, () -> x.amendedClause(0, 0));
            Boundaries.due("not accepted", "false 2", () -> x.decide(0) + " " + x.pendingCount(0));
            Boundaries.due("not accepted", "false 1", () -> x.decide(0) + " " + x.pendingCount(0));
            Boundaries.due("the last", "true 0", () -> x.decide(0) + " " + x.pendingCount(0));
            Boundaries.due("no more", Check.ELEMENT, () -> x.decide(0));
        });
    }

    private static boolean decideWith(int... weights) {
        BellParliament x = Check.chamber(weights);
        x.introduce(0, 0, 0);
        x.propose(0, 0, 5);
        return x.decide(0);
    }

    private static void decideRefused() {
        Boundaries.says(33, NO_BILL, () -> {
            Boundaries.refused("no bill there", Check.INDEX, BellParliament::new, x -> x.decide(0));
            Boundaries.refusedNumbers("bill", Check.INDEX, Boundaries::busy, Boundaries.outside(3),
                    BellParliament::decide);
            Boundaries.refusedNumbers("of 8", Check.INDEX, () -> Boundaries.bills(8), Boundaries.outside(8),
                    BellParliament::decide);
        });
        Boundaries.says(33, NOT_OPEN, () -> {
            Boundaries.refused("fallen", Check.STATE, Boundaries::busy, x -> x.decide(1));
            Boundaries.refused("passed", Check.STATE, Boundaries::busy, x -> x.decide(2));
        });
        Boundaries.says(33, "Throws `NoSuchElementException` if no amendment to the bill is pending", () -> {
            Boundaries.refused("none proposed", Check.ELEMENT, () -> pending(0), x -> x.decide(0));
            Boundaries.refused("none left", Check.ELEMENT, () -> {
                BellParliament x = pending(1);
                x.decide(0);
                return x;
            }, x -> x.decide(0));
            Boundaries.due("one", true, () -> pending(1).decide(0));
        });
        Boundaries.says(33, "Throws `UnsupportedOperationException` if the chamber has no quorum", () -> {
            Boundaries.refused("one too few", Check.UNSUPPORTED, () -> {
                BellParliament x = pending(2);
                x.leave(2);
                return x;
            }, x -> x.decide(0));
            Boundaries.due("just enough", true, () -> {
                BellParliament x = pending(2);
                x.leave(2);
                x.setQuorum(2);
                return x.decide(0);
            });
        });
    }

    private static void queries() {
        Boundaries.says(34, "Returns the number of pending amendments to a bill.", () -> {
            for (int count = 0; count <= 4; count++) {
                int there = count;
                Boundaries.due(count + " proposed", there, () -> pending(there).pendingCount(0));
            }
            Boundaries.due("a fifth refused", 4, () -> {
                BellParliament x = pending(4);
                Check.answerOf(() -> x.propose(0, 0, 0));
                return x.pendingCount(0);
            });
        });
        Boundaries.says(34, NO_BILL, () -> BillBoundaries.noBill(BellParliament::pendingCount, 0));
        Boundaries.says(35, NO_BILL, () ->
                BillBoundaries.noBill((x, bill) -> x.amendedClause(bill, 0), Check.ELEMENT));
        Boundaries.says(36, NO_BILL, () ->
                BillBoundaries.noBill((x, bill) -> x.supportWeight(bill, 0), Check.ELEMENT));
        Boundaries.says(35, "Returns the clause of a pending amendment.", () -> {
            BellParliament x = pending(0);
            int[] clauses = {63, 0, 32, 31};
            for (int clause : clauses) {
                x.propose(0, 0, clause);
            }
            for (int i = 0; i < 4; i++) {
                int position = i;
                Boundaries.due("position " + i, clauses[i], () -> x.amendedClause(0, position));
            }
        });
        Boundaries.says(36, "Returns the weight of all supporters of a pending amendment.", () -> {
            BellParliament x = pending(4);
            x.enter(3);
            for (int member = 0; member < 4; member++) {
                x.support(0, 3, member);
            }
            x.leave(3);
            Boundaries.due("one", 1, () -> x.supportWeight(0, 2));
            Boundaries.due("all, though one has left", 14, () -> x.supportWeight(0, 3));
        });
        Boundaries.says(35, NO_POSITION, () -> noPosition((x, position) -> x.amendedClause(0, position), 23));
        Boundaries.says(36, NO_POSITION, () -> noPosition((x, position) -> x.supportWeight(0, position), 4));
    }

    private static void noPosition(Boundaries.UseOfNumber query, int ofTheLast) {
        for (int count = 0; count <= 4; count++) {
            int there = count;
            Boundaries.refusedNumbers(count + " pending, position", Check.ELEMENT, () -> pending(there),
                    Boundaries.outside(there), query);
        }
        Boundaries.due("the last of four", ofTheLast, () -> query.of(pending(4), 3));
        Boundaries.due("decided", Check.ELEMENT, () -> {
            BellParliament x = pending(4);
            x.decide(0);
            return query.of(x, 3);
        });
        Boundaries.due("fallen", Check.ELEMENT, () -> {
            BellParliament x = pending(4);
            for (int i = 0; i < 6; i++) {
                x.ride(0, 0, 30);
            }
            return query.of(x, 0);
        });
    }
}
