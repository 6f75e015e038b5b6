import java.util.ArrayList;
import java.util.List;

/** Boundaries of promises 53 to 55, and of what the terms say of changes and of exceptions. */
final class UndoBoundaries {
    private UndoBoundaries() {
    }

    static void test() {
        whatIsAChange();
        latestEight();
        whatIsUndone();
        undo();
        save();
        restore();
        exceptions();
        orderOfExceptions();
    }

    /** The uses of all twelve changing methods, each of which succeeds once on a busy object. */
    private static List<Boundaries.Use> changes() {
        return List.of(x -> x.addMember(3, 7), x -> x.enter(3), x -> x.leave(0), x -> x.setQuorum(24),
                x -> x.introduce(0, 0, 63), x -> x.voteFor(0, 2), x -> x.voteAgainst(0, 2),
                UndoBoundaries::decideAndClose, x -> x.propose(0, 0, 63), x -> x.support(0, 1, 0), x -> x.decide(0),
                x -> x.ride(0, 0, 30), BellParliament::run);
    }

    private static Object decideAndClose(BellParliament x) {
        x.decide(0);
        x.decide(0);
        return x.closeReading(0);
    }

    /** A busy object of which nothing can be undone. */
    private static BellParliament settled() {
        BellParliament x = Boundaries.busy();
        x.save();
        x.restore();
        return x;
    }

    private static void whatIsAChange() {
        Boundaries.says(Boundaries.TERMS, "A change is a successful call of addMember, enter, leave, setQuorum, "
                + "introduce, voteFor, voteAgainst, closeReading, propose, support, decide, ride or run.", () -> {
            List<Boundaries.Use> changes = changes();
            for (int i = 0; i < changes.size(); i++) {
                BellParliament x = settled();
                Boundaries.due("nothing to undo", Check.STATE, x::undo);
                changes.get(i).of(x);
                int before = i == 7 ? 2 : 0;
                Boundaries.due("change " + i, before, x::undo);
            }
            BellParliament x = settled();
            x.append('x');
            x.describeBill(0);
            x.save();
            Check.answerOf(x::run);
            Check.answerOf(() -> x.enter(0));
            Boundaries.due("no change", Check.STATE, x::undo);
            x.setQuorum(5);
            x.undo();
            Boundaries.due("undo is no change", Check.STATE, x::undo);
        });
        Boundaries.says(Boundaries.TERMS, "A successful call is a change even if nothing differs afterwards.", () -> {
            BellParliament x = settled();
            String before = Boundaries.stateOf(x);
            x.setQuorum(x.quorum());
            x.voteFor(0, 0);
            x.voteAgainst(0, 1);
            x.support(0, 0, 1);
            Boundaries.due("nothing differs", before, () -> Boundaries.stateOf(x));
            for (int i = 3; i >= 0; i--) {
                int left = i;
                Boundaries.due("undone", left, x::undo);
            }
            BellParliament y = settledWithoutText();
            Check.runText(y, "yes 0 0");
            Boundaries.due("a run, nothing differs", before, () -> Boundaries.stateOf(y));
            Boundaries.due("a run", 0, y::undo);
        });
        Boundaries.says(Boundaries.TERMS, "A call of run that carries out several commands is one change.", () -> {
            BellParliament x = settledWithoutText();
            x.setQuorum(5);
            Check.runText(x, "quorum 6");
            Check.runText(x, "no 0 0;no 0 1;no 0 2;no 0 0;no 0 1;no 0 2;no 0 0;no 0 1");
            Check.runText(x, "yes 0 0;quorum 24");
            Boundaries.due("two commands", "3 15 6", () -> x.undo() + " " + x.weightAgainst(0) + " " + x.quorum());
            Boundaries.due("eight commands", "2 3 6", () -> x.undo() + " " + x.weightAgainst(0) + " " + x.quorum());
            Boundaries.due("one command", "1 3 5", () -> x.undo() + " " + x.weightAgainst(0) + " " + x.quorum());
            Boundaries.due("a call", "0 3 3", () -> x.undo() + " " + x.weightAgainst(0) + " " + x.quorum());
        });
    }

    private static BellParliament settledWithoutText() {
        BellParliament x = settled();
        x.run();
        x.undo();
        return x;
    }

    private static void latestEight() {
        Boundaries.says(Boundaries.TERMS, "The latest 8 changes can be undone, the latest one first.", () -> {
            for (int n = 0; n <= 40; n++) {
                BellParliament x = new BellParliament();
                for (int i = 1; i <= n; i++) {
                    x.setQuorum((i + 2) % 24 + 1);
                }
                for (int i = 1; i <= Math.min(n, 8); i++) {
                    int left = Math.min(n, 8) - i;
                    int quorum = n == i ? 3 : (n - i + 2) % 24 + 1;
                    Boundaries.due(n + " changes, left", left, x::undo);
                    Boundaries.due(n + " changes, quorum", quorum, x::quorum);
                }
                Boundaries.due(n + " changes, no more", Check.STATE, x::undo);
            }
        });
    }

    private static void whatIsUndone() {
        Boundaries.says(Boundaries.TERMS, "The command text, the error position, the failed command, and the line are "
                + "neither undone nor saved.", () -> {
            BellParliament x = Boundaries.busy();
            x.save();
            x.setQuorum(9);
            Check.runText(x, ";");
            Check.runText(x, "leave 0;leave 1;leave 1");
            x.describeBill(1);
            Check.put(x, "quorum 2");
            x.undo();
            Boundaries.due("undo", "9 2 1f0:10", () -> x.errorPosition() + " " + x.failedCommand() + " "
                    + Check.line(x));
            x.restore();
            Boundaries.due("restore", "9 2 1f0:10", () -> x.errorPosition() + " " + x.failedCommand() + " "
                    + Check.line(x));
            Boundaries.due("the text", 9, () -> x.append('4'));
            Boundaries.due("the text is run", 1, x::run);
            Boundaries.due("the text was run", 24, x::quorum);
        });
        Boundaries.says(Boundaries.TERMS, "Everything else is.", () -> {
            for (Boundaries.Use change : changes()) {
                BellParliament x = settled();
                String before = changeable(x);
                x.save();
                change.of(x);
                Boundaries.due("restored", before, () -> {
                    x.restore();
                    return changeable(x);
                });
                BellParliament y = settled();
                change.of(y);
                Boundaries.due("undone", before, () -> {
                    int left = y.undo();
                    while (left > 0) {
                        left = y.undo();
                    }
                    return changeable(y);
                });
            }
            inThePlaceOfAnUndoneMember();
            inThePlaceOfAnUndoneBill();
        });
    }

    private static void inThePlaceOfAnUndoneMember() {
        BellParliament x = Boundaries.members(23, 1);
        x.addMember(2, 6);
        x.enter(23);
        x.save();
        x.undo();
        x.undo();
        x.addMember(1, 4);
        Boundaries.due("the new member", "1 4 false", () -> x.wardOf(23) + " " + x.weightOf(23) + " " + x.isPresent(23));
        x.restore();
        Boundaries.due("the saved member", "2 6 true", () -> x.wardOf(23) + " " + x.weightOf(23) + " " + x.isPresent(23));
    }

    private static void inThePlaceOfAnUndoneBill() {
        BellParliament x = Boundaries.bills(7);
        x.introduce(0, 10, 19);
        x.voteFor(7, 0);
        x.voteAgainst(7, 1);
        x.propose(7, 0, 63);
        x.ride(0, 7, 30);
        x.save();
        for (int i = 0; i < 5; i++) {
            x.undo();
        }
        x.introduce(1, 63, 63);
        Boundaries.due("the new bill", "0 0 0 0 1", () -> bill(x, 7));
        x.restore();
        Boundaries.due("the saved bill", "4 2 1 30 10", () -> bill(x, 7));
    }

    private static String bill(BellParliament x, int bill) {
        return x.weightFor(bill) + " " + x.weightAgainst(bill) + " " + x.pendingCount(bill) + " " + x.delay(bill) + " "
                + x.clauseCount(bill);
    }

    /** The state without the error position, the failed command and the line. */
    private static String changeable(BellParliament x) {
        String state = Boundaries.stateOf(x);
        return state.substring(0, state.indexOf(" e"));
    }

    private static void undo() {
        Boundaries.says(53, "Undoes the latest change that has not been undone.", () -> {
            BellParliament x = new BellParliament();
            for (int i = 1; i <= 8; i++) {
                x.setQuorum(i);
            }
            x.undo();
            x.undo();
            x.setQuorum(20);
            Boundaries.due("the new one", 6, x::undo);
            Boundaries.due("the new one", 6, x::quorum);
            Boundaries.due("the one before the undone ones", 5, x::undo);
            Boundaries.due("the one before the undone ones", 5, x::quorum);
        });
        Boundaries.says(53, "Returns the number of changes that can still be undone.", () -> {
            BellParliament x = new BellParliament();
            x.setQuorum(1);
            Boundaries.due("of one", 0, x::undo);
            for (int i = 1; i <= 9; i++) {
                x.setQuorum(i);
            }
            Boundaries.due("of nine", 7, x::undo);
            x.setQuorum(10);
            Boundaries.due("of eight again", 7, x::undo);
            x.setQuorum(10);
            x.setQuorum(11);
            Boundaries.due("of eight after nine", 7, x::undo);
        });
        Boundaries.says(53, "Throws `IllegalStateException` if there is no change to undo", () -> {
            Boundaries.refused("new", Check.STATE, BellParliament::new, BellParliament::undo);
            Boundaries.refused("restored", Check.STATE, UndoBoundaries::settled, BellParliament::undo);
            Boundaries.refused("a ninth", Check.STATE, () -> {
                BellParliament x = Boundaries.busy();
                for (int i = 0; i < 8; i++) {
                    x.undo();
                }
                return x;
            }, BellParliament::undo);
        });
    }

    private static void save() {
        Boundaries.says(54, "Saves everything that changes can change as the snapshot, replacing an earlier snapshot.",
                () -> {
            BellParliament x = Boundaries.busy();
            x.setQuorum(11);
            x.save();
            x.setQuorum(12);
            x.save();
            x.save();
            x.setQuorum(13);
            x.undo();
            x.undo();
            Boundaries.due("undo leaves the snapshot", 11, x::quorum);
            x.restore();
            Boundaries.due("the latest snapshot", 12, x::quorum);
        });
        Boundaries.says(54, "Returns the number of bills.", () -> {
            Boundaries.due("none", 0, () -> new BellParliament().save());
            Boundaries.due("all", 8, () -> Boundaries.bills(8).save());
        });
    }

    private static void restore() {
        Boundaries.says(55, "Restores the snapshot, which is kept.", () -> {
            BellParliament x = Boundaries.busy();
            x.save();
            String saved = changeable(x);
            for (int i = 0; i < 3; i++) {
                for (Boundaries.Use change : changes()) {
                    Check.answerOf(() -> change.of(x));
                }
                x.restore();
                Boundaries.due("time " + i, saved, () -> changeable(x));
            }
            BellParliament y = new BellParliament();
            y.save();
            y.addMember(0, 1);
            y.restore();
            Boundaries.due("an empty one", 0, y::memberCount);
        });
        Boundaries.says(55, "After the call no change can be undone.", () -> {
            Boundaries.due("after more than eight", Check.STATE, () -> {
                BellParliament x = Boundaries.busy();
                x.restore();
                return x.undo();
            });
            BellParliament x = Boundaries.busy();
            x.restore();
            x.setQuorum(1);
            Boundaries.due("but the changes that follow", 0, x::undo);
            x.restore();
            for (int i = 1; i <= 9; i++) {
                x.setQuorum(i);
            }
            Boundaries.due("eight that follow", 7, x::undo);
        });
        Boundaries.says(55, "Returns the number of bills.", () -> {
            BellParliament x = Boundaries.bills(8);
            x.save();
            x.undo();
            Boundaries.due("all", 8, x::restore);
            BellParliament y = Boundaries.bills(0);
            y.save();
            y.introduce(0, 0, 0);
            Boundaries.due("none", 0, y::restore);
        });
        Boundaries.says(55, "Throws `IllegalStateException` if there is no snapshot", () -> {
            Boundaries.refused("new", Check.STATE, BellParliament::new, BellParliament::restore);
            Boundaries.refused("with bills", Check.STATE, () -> Boundaries.bills(8), BellParliament::restore);
            Boundaries.due("an empty snapshot is one", 0, () -> {
                BellParliament x = new BellParliament();
                x.save();
                return x.restore();
            });
        });
    }

    private static void exceptions() {
        Boundaries.says(Boundaries.TERMS, "A method that throws an exception changes nothing, except that run clears the "
                + "command text and sets the error position or the failed command.", () -> {
            List<Boundaries.Use> refusedCalls = new ArrayList<>(List.of(x -> x.addMember(4, 1), x -> x.enter(0),
                    x -> x.leave(3), x -> x.setQuorum(0), x -> x.introduce(3, 0, 0), x -> x.voteFor(0, 3),
                    x -> x.voteAgainst(0, 3), x -> x.closeReading(0), x -> x.propose(0, 3, 0), x -> x.support(0, 2, 0),
                    x -> x.decide(3), x -> x.ride(0, 0, 31), x -> x.append('\n'), x -> x.describeBill(3),
                    x -> x.lineAt(5), x -> x.shareBits(1), x -> x.billAtRank(3), x -> x.amendedClause(0, 2)));
            for (int i = 0; i < refusedCalls.size(); i++) {
                Boundaries.Use call = refusedCalls.get(i);
                Boundaries.due("call " + i + " is refused", true,
                        () -> Check.answerOf(() -> call.of(Boundaries.busy())).startsWith("throws."));
                Boundaries.due("call " + i + " changes nothing", Boundaries.everythingOf(Boundaries::busy),
                        () -> Boundaries.everythingOf(() -> after(Boundaries.busy(), call)));
            }
            runs("leave 0;leave 0", "f1 l", "f1 l");
            runs("leave 0;leave 1;leave 1", "f1 l", "f2 l");
            runs("leave 0;leave", "e5 f", "e13 f");
        });
    }

    private static BellParliament after(BellParliament x, Boundaries.Use call) {
        Check.answerOf(() -> call.of(x));
        return x;
    }

    /** A run that is refused leaves all as it was after a text was run that failed before, but for one position. */
    private static void runs(String text, String position, String then) {
        Boundaries.Making empty = () -> {
            BellParliament x = Boundaries.busy();
            x.run();
            return x;
        };
        Boundaries.Making refused = () -> {
            BellParliament x = empty.make();
            Check.runText(x, text);
            return x;
        };
        Boundaries.due("a run of " + text, Boundaries.stateOf(empty.make()).replace(position, then),
                () -> Boundaries.stateOf(refused.make()));
        for (int n = 1; n <= 9; n++) {
            int times = n;
            Boundaries.due("a run of " + text + ", undone", undone(empty.make(), times),
                    () -> undone(refused.make(), times));
        }
    }

    private static String undone(BellParliament x, int times) {
        String answers = "";
        for (int i = 0; i < times; i++) {
            answers += Check.answerOf(x::undo) + " ";
        }
        return answers + changeable(x);
    }

    private static void orderOfExceptions() {
        Boundaries.says(Boundaries.TERMS, "If several exceptions apply, the exception listed first is thrown.", () -> {
            Boundaries.Making full = UndoBoundaries::fullAndBusy;
            Boundaries.refused("ward, weight, full", Check.INDEX, full, x -> x.addMember(4, 8));
            Boundaries.refused("ward, full", Check.INDEX, full, x -> x.addMember(-1, 7));
            Boundaries.refused("weight, full", Check.ARGUMENT, full, x -> x.addMember(3, 0));
            Boundaries.refused("member, order, full", Check.INDEX, full, x -> x.introduce(24, 1, 0));
            Boundaries.refused("clause, order, full, out", Check.INDEX, full, x -> x.introduce(23, 64, 63));
            Boundaries.refused("clause, order", Check.INDEX, full, x -> x.introduce(0, 0, -1));
            Boundaries.refused("order, full, out", Check.ARGUMENT, full, x -> x.introduce(23, 1, 0));
            Boundaries.refused("full, out", Check.STATE, full, x -> x.introduce(23, 0, 1));
            for (int done = 1; done <= 2; done++) {
                int bill = done;
                Boundaries.refused("for: member, done", Check.INDEX, full, x -> x.voteFor(bill, 24));
                Boundaries.refused("for: done, out", Check.STATE, full, x -> x.voteFor(bill, 23));
                Boundaries.refused("against: member, done", Check.INDEX, full, x -> x.voteAgainst(bill, 24));
                Boundaries.refused("against: done, out", Check.STATE, full, x -> x.voteAgainst(bill, 23));
                Boundaries.refused("close: done, no quorum", Check.STATE, full, x -> x.closeReading(bill));
                Boundaries.refused("propose: clause, done", Check.INDEX, full, x -> x.propose(bill, 23, 64));
                Boundaries.refused("propose: done, out", Check.STATE, full, x -> x.propose(bill, 23, 0));
                Boundaries.refused("support: member, done", Check.INDEX, full, x -> x.support(bill, 9, 24));
                Boundaries.refused("support: done, position, out", Check.STATE, full, x -> x.support(bill, 9, 23));
                Boundaries.refused("decide: done, none, no quorum", Check.STATE, full, x -> x.decide(bill));
                Boundaries.refused("ride: member, minutes, done", Check.INDEX, full, x -> x.ride(24, bill, 0));
                Boundaries.refused("ride: minutes, done, out", Check.ARGUMENT, full, x -> x.ride(23, bill, 31));
                Boundaries.refused("ride: done, out", Check.STATE, full, x -> x.ride(23, bill, 1));
                Boundaries.refused("rides: minutes, done", Check.ARGUMENT, full, x -> x.ridesUntilFall(bill, 0));
            }
            Boundaries.refused("for: bill, out", Check.INDEX, full, x -> x.voteFor(8, 23));
            Boundaries.refused("against: bill, out", Check.INDEX, full, x -> x.voteAgainst(8, 23));
            Boundaries.refused("close: bill, no quorum", Check.INDEX, full, x -> x.closeReading(8));
            Boundaries.refused("propose: bill, out", Check.INDEX, full, x -> x.propose(8, 23, 0));
            Boundaries.refused("propose: four, out", Check.STATE, full, x -> x.propose(0, 23, 0));
            Boundaries.refused("propose: clause, four", Check.INDEX, full, x -> x.propose(0, 0, 64));
            Boundaries.refused("support: bill, position", Check.INDEX, full, x -> x.support(8, 9, 23));
            Boundaries.refused("support: member, position", Check.INDEX, full, x -> x.support(0, 9, 24));
            Boundaries.refused("support: position, out", Check.ELEMENT, full, x -> x.support(0, 4, 23));
            Boundaries.refused("decide: bill, no quorum", Check.INDEX, full, x -> x.decide(8));
            Boundaries.refused("decide: none, no quorum", Check.ELEMENT, full, x -> x.decide(3));
            Boundaries.refused("clause of: bill, position", Check.INDEX, full, x -> x.amendedClause(8, 9));
            Boundaries.refused("weight of: bill, position", Check.INDEX, full, x -> x.supportWeight(8, 9));
            Boundaries.refused("ride: bill, minutes, out", Check.INDEX, full, x -> x.ride(23, 8, 0));
            Boundaries.refused("ride: minutes, out", Check.ARGUMENT, full, x -> x.ride(23, 0, 0));
            Boundaries.refused("rides: bill, minutes", Check.INDEX, full, x -> x.ridesUntilFall(8, 0));
            Boundaries.refused("append: code, sixty", Check.ARGUMENT, full, x -> x.append((char) 127));
            Boundaries.refused("share: bill, no votes", Check.INDEX, full, x -> x.shareBits(8));
        });
    }

    /** 24 members of whom 23 is out, no quorum, 8 bills (1 fallen, 2 passed), 4 amendments to bill 0, 60 characters. */
    private static BellParliament fullAndBusy() {
        BellParliament x = Boundaries.fullChamber();
        for (int bill = 0; bill < 8; bill++) {
            x.introduce(0, bill, 63);
        }
        x.closeReading(1);
        for (int reading = 0; reading < 3; reading++) {
            x.voteFor(2, 0);
            x.closeReading(2);
        }
        for (int i = 0; i < 4; i++) {
            x.propose(0, 0, i);
        }
        x.setQuorum(24);
        x.leave(23);
        Check.put(x, " ".repeat(60));
        return x;
    }
}
