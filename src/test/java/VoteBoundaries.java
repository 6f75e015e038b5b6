/** Boundaries of promises 25 to 30, and of what the terms say of votes. */
final class VoteBoundaries {
    private static final String NO_BILL = "Throws `IndexOutOfBoundsException` if there is no such bill";
    private static final String NO_BILL_OR_MEMBER =
            "Throws `IndexOutOfBoundsException` if there is no such bill or member";
    private static final String NOT_OPEN = "Throws `IllegalStateException` if the bill is not open";
    private static final String OUT = "Throws `UnsupportedOperationException` if the member is not present";

    private VoteBoundaries() {
    }

    static void test() {
        terms();
        votes();
        weights();
        closeReading();
        closeReadingRefused();
    }

    private static void terms() {
        Boundaries.says(Boundaries.TERMS, "In the reading of an open bill each member has at most one vote, "
                + "which is for or against the bill.", () -> {
            BellParliament x = Check.chamber(5);
            x.introduce(0, 0, 0);
            for (int i = 0; i < 3; i++) {
                Boundaries.due("for", 5, () -> x.voteFor(0, 0));
                Boundaries.due("not against", 0, () -> x.weightAgainst(0));
                Boundaries.due("against", 5, () -> x.voteAgainst(0, 0));
                Boundaries.due("not for", 0, () -> x.weightFor(0));
                Boundaries.due("consistent", true, x::isConsistent);
            }
        });
        Boundaries.says(Boundaries.TERMS, "The weight of a set of members is the sum of their weights.", () -> {
            BellParliament x = Boundaries.fullChamber();
            x.introduce(0, 0, 0);
            Boundaries.due("nobody", 0, () -> x.weightFor(0));
            for (int i = 0; i < 24; i++) {
                int member = i;
                Boundaries.due("up to " + i, 7 * (i + 1), () -> x.voteFor(0, member));
            }
            x.propose(0, 0, 1);
            for (int member = 1; member < 24; member++) {
                x.support(0, 0, member);
            }
            Boundaries.due("all support", 168, () -> x.supportWeight(0, 0));
        });
    }

    private static void votes() {
        Boundaries.says(25, "An earlier vote of the member in this reading is replaced.", () -> {
            BellParliament x = oneBill(5, 3, 7);
            x.voteAgainst(0, 0);
            x.voteAgainst(0, 1);
            Boundaries.due("against before", 5, () -> x.voteFor(0, 0));
            Boundaries.due("one less against", 3, () -> x.weightAgainst(0));
            Boundaries.due("for before", 5, () -> x.voteFor(0, 0));
            Boundaries.due("the last one against", 8, () -> x.voteFor(0, 1));
            Boundaries.due("nobody against", 0, () -> x.weightAgainst(0));
        });
        Boundaries.says(26, "An earlier vote of the member in this reading is replaced.", () -> {
            BellParliament x = oneBill(5, 3, 7);
            x.voteFor(0, 0);
            x.voteFor(0, 1);
            Boundaries.due("for before", 5, () -> x.voteAgainst(0, 0));
            Boundaries.due("one less for", 3, () -> x.weightFor(0));
            Boundaries.due("against before", 5, () -> x.voteAgainst(0, 0));
            Boundaries.due("the last one for", 8, () -> x.voteAgainst(0, 1));
            Boundaries.due("nobody for", 0, () -> x.weightFor(0));
        });
        Boundaries.says(25, "Returns the weight of all votes for the bill after the call.",
                () -> afterTheCall(BellParliament::voteFor));
        Boundaries.says(26, "Returns the weight of all votes against the bill after the call.",
                () -> afterTheCall(BellParliament::voteAgainst));
        voteRefused(25, "voteFor", BellParliament::voteFor);
        voteRefused(26, "voteAgainst", BellParliament::voteAgainst);
    }

    private static void afterTheCall(Vote vote) {
        BellParliament x = fullChamberAndBills();
        for (int i = 0; i < 24; i++) {
            int member = i;
            Boundaries.due("up to " + i, 7 * (i + 1), () -> vote.of(x, 7, member));
        }
        Boundaries.due("the same again", 168, () -> vote.of(x, 7, 0));
        Boundaries.due("on another bill", 7, () -> vote.of(x, 0, 0));
    }

    private interface Vote {
        int of(BellParliament x, int bill, int member);
    }

    private static BellParliament oneBill(int... weights) {
        BellParliament x = Check.chamber(weights);
        x.introduce(0, 0, 9);
        return x;
    }

    private static BellParliament fullChamberAndBills() {
        BellParliament x = Boundaries.fullChamber();
        for (int bill = 0; bill < 8; bill++) {
            x.introduce(0, 0, bill);
        }
        return x;
    }

    private static void voteRefused(int promise, String name, Vote vote) {
        Boundaries.says(promise, NO_BILL_OR_MEMBER, () -> {
            Boundaries.refused("nothing there", Check.INDEX, BellParliament::new, x -> vote.of(x, 0, 0));
            Boundaries.refusedNumbers("bill", Check.INDEX, Boundaries::busy, Boundaries.outside(3),
                    (x, bill) -> vote.of(x, bill, 0));
            Boundaries.refusedNumbers("of 8", Check.INDEX, () -> Boundaries.bills(8), Boundaries.outside(8),
                    (x, bill) -> vote.of(x, bill, 0));
            Boundaries.refusedNumbers("member", Check.INDEX, Boundaries::busy, Boundaries.outside(4),
                    (x, member) -> vote.of(x, 0, member));
            Boundaries.refusedNumbers("of 24", Check.INDEX, VoteBoundaries::fullChamberAndBills, Boundaries.outside(24),
                    (x, member) -> vote.of(x, 7, member));
            Boundaries.due("the last ones", 7, () -> vote.of(fullChamberAndBills(), 7, 23));
            Boundaries.due("the first ones", 7, () -> vote.of(fullChamberAndBills(), 0, 0));
        });
        Boundaries.says(promise, NOT_OPEN, () -> {
            Boundaries.refused(name + ", fallen", Check.STATE, Boundaries::busy, x -> vote.of(x, 1, 0));
            Boundaries.refused(name + ", passed", Check.STATE, Boundaries::busy, x -> vote.of(x, 2, 0));
            Boundaries.refused(name + ", rusted", Check.STATE, VoteBoundaries::rusted, x -> vote.of(x, 0, 0));
        });
        Boundaries.says(promise, OUT, () -> {
            Boundaries.refused(name + ", out", Check.UNSUPPORTED, Boundaries::busy, x -> vote.of(x, 0, 3));
            Boundaries.refused(name + ", who has voted and left", Check.UNSUPPORTED, () -> {
                BellParliament x = Boundaries.busy();
                x.leave(0);
                x.leave(1);
                return x;
            }, x -> vote.of(x, 0, promise == 25 ? 1 : 0));
            Boundaries.due("without a quorum", 4, () -> vote.of(Boundaries.bills(1), 0, 0));
        });
    }

    private static BellParliament rusted() {
        BellParliament x = Boundaries.busy();
        for (int i = 0; i < 4; i++) {
            x.ride(0, 0, 30);
        }
        return x;
    }

    private static void weights() {
        Boundaries.says(27, "Returns the weight of all votes for a bill, added member by member.",
                () -> everyWeightFor(BellParliament::weightFor));
        Boundaries.says(28, "Returns the same weight as weightFor(), found from three bit masks, "
                + "one for each binary digit of the weights.", () -> everyWeightFor(BellParliament::weightForByDigits));
        Boundaries.says(29, "Returns the weight of all votes against a bill.", () -> {
            BellParliament x = oneBill(1, 2, 3, 4, 5, 6, 7);
            Boundaries.due("no votes", 0, () -> x.weightAgainst(0));
            int sum = 0;
            for (int member = 0; member < 7; member++) {
                x.voteAgainst(0, member);
                sum += member + 1;
                Boundaries.due("up to " + member, sum, () -> x.weightAgainst(0));
            }
            BellParliament y = fullChamberAndBills();
            for (int member = 0; member < 24; member++) {
                y.voteAgainst(7, member);
            }
            Boundaries.due("all", 168, () -> y.weightAgainst(7));
            Boundaries.due("another bill", 0, () -> y.weightAgainst(6));
        });
        Boundaries.says(27, NO_BILL, () -> BillBoundaries.noBill(BellParliament::weightFor, 0));
        Boundaries.says(28, NO_BILL, () -> BillBoundaries.noBill(BellParliament::weightForByDigits, 0));
        Boundaries.says(29, NO_BILL, () -> BillBoundaries.noBill(BellParliament::weightAgainst, 0));
    }

    private static void everyWeightFor(Boundaries.UseOfNumber weight) {
        Boundaries.due("no votes", 0, () -> weight.of(oneBill(7), 0));
        for (int set = 0; set < 128; set++) {
            BellParliament x = oneBill(1, 2, 3, 4, 5, 6, 7);
            int sum = 0;
            for (int member = 0; member < 7; member++) {
                if ((set >> member & 1) == 1) {
                    x.voteFor(0, member);
                    sum += member + 1;
                } else {
                    x.voteAgainst(0, member);
                }
            }
            Boundaries.due("members " + Integer.toBinaryString(set), sum, () -> weight.of(x, 0));
        }
        BellParliament x = fullChamberAndBills();
        for (int member = 0; member < 24; member++) {
            x.voteFor(7, member);
        }
        Boundaries.due("all", 168, () -> weight.of(x, 7));
        Boundaries.due("another bill", 0, () -> weight.of(x, 6));
        x.voteAgainst(7, 23);
        Boundaries.due("all but the last", 161, () -> weight.of(x, 7));
    }

    private static void closeReading() {
        Boundaries.says(30, "If the weight of the votes for it is greater than the weight of the votes against it, "
                + "the reading is a success, and otherwise the bill falls.", () -> {
            Boundaries.due("no votes", "false 0 false", () -> closed(oneBill(5, 3, 2)));
            for (int against = 0; against < 8; against++) {
                BellParliament x = oneBill(4, 1, 2, 4);
                x.voteFor(0, 0);
                for (int member = 1; member <= 3; member++) {
                    if ((against >> member - 1 & 1) == 1) {
                        x.voteAgainst(0, member);
                    }
                }
                boolean success = 4 > against;
                Boundaries.due("4 against " + against, success + (success ? " 1 true" : " 0 false"), () -> closed(x));
            }
            Boundaries.due("one heavy against two light", "true 1 true", () -> {
                BellParliament x = oneBill(3, 1, 1);
                x.voteFor(0, 0);
                x.voteAgainst(0, 1);
                x.voteAgainst(0, 2);
                return closed(x);
            });
            Boundaries.due("two light against one heavy", "false 0 false", () -> {
                BellParliament x = oneBill(1, 1, 2);
                x.voteFor(0, 0);
                x.voteFor(0, 1);
                x.voteAgainst(0, 2);
                return closed(x);
            });
        });
        Boundaries.says(30, "All votes on the bill are removed.", () -> {
            BellParliament x = oneBill(5, 3, 2);
            x.introduce(0, 0, 9);
            x.voteFor(1, 0);
            x.voteFor(0, 0);
            x.voteAgainst(0, 1);
            x.closeReading(0);
            Boundaries.due("for", 0, () -> x.weightFor(0));
            Boundaries.due("against", 0, () -> x.weightAgainst(0));
            Boundaries.due("share", Check.ARITHMETIC, () -> x.shareBits(0));
            Boundaries.due("on another bill", 5, () -> x.weightFor(1));
            Boundaries.due("the next reading begins without them", false, () -> x.closeReading(0));
        });
        Boundaries.says(30, "Returns whether the reading is a success.", () -> {
            BellParliament x = oneBill(1, 1, 1);
            for (int reading = 1; reading <= 3; reading++) {
                x.voteFor(0, 0);
                Boundaries.due("reading " + reading, true, () -> x.closeReading(0));
            }
            Boundaries.due("a fourth", Check.STATE, () -> x.closeReading(0));
        });
    }

    private static String closed(BellParliament x) {
        return x.closeReading(0) + " " + x.readings(0) + " " + x.isOpen(0);
    }

    private static void closeReadingRefused() {
        Boundaries.says(30, NO_BILL, () -> {
            Boundaries.refused("no bill there", Check.INDEX, BellParliament::new, x -> x.closeReading(0));
            Boundaries.refusedNumbers("bill", Check.INDEX, Boundaries::busy, Boundaries.outside(3),
                    BellParliament::closeReading);
            Boundaries.refusedNumbers("of 8", Check.INDEX, VoteBoundaries::fullChamberAndBills, Boundaries.outside(8),
                    BellParliament::closeReading);
            Boundaries.due("the last", false, () -> fullChamberAndBills().closeReading(7));
        });
        Boundaries.says(30, NOT_OPEN, () -> {
            Boundaries.refused("fallen", Check.STATE, Boundaries::busy, x -> x.closeReading(1));
            Boundaries.refused("passed", Check.STATE, Boundaries::busy, x -> x.closeReading(2));
            Boundaries.refused("rusted", Check.STATE, VoteBoundaries::rusted, x -> x.closeReading(0));
        });
        Boundaries.says(30, "Throws `UnsupportedOperationException` if the chamber has no quorum, "
                + "or an amendment to the bill is pending", () -> {
            Boundaries.refused("one too few", Check.UNSUPPORTED, () -> Boundaries.bills(1), x -> x.closeReading(0));
            Boundaries.due("just enough", false, () -> {
                BellParliament x = Boundaries.bills(1);
                x.setQuorum(2);
                return x.closeReading(0);
            });
            Boundaries.refused("two pending", Check.UNSUPPORTED, Boundaries::busy, x -> x.closeReading(0));
            Boundaries.refused("one pending", Check.UNSUPPORTED, () -> {
                BellParliament x = Boundaries.busy();
                x.decide(0);
                return x;
            }, x -> x.closeReading(0));
            Boundaries.due("none pending any more", false, () -> {
                BellParliament x = Boundaries.busy();
                x.decide(0);
                x.decide(0);
                x.voteAgainst(0, 2);
                return x.closeReading(0);
            });
            Boundaries.due("pending to another bill", false, () -> {
                BellParliament x = oneBill(5, 3, 2);
                x.introduce(0, 0, 9);
                x.propose(1, 0, 0);
                return x.closeReading(0);
            });
        });
    }
}
