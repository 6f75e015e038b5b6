/** Promises 53 to 55: undo, save and restore. */
public final class UndoTest {
    public static void main(String[] args) {
        everyChange();
        onlyEight();
        refusedCallsAreNoChanges();
        runIsOneChange();
        snapshot();
        snapshotAndUndo();
        snapshotIsApart();
        Check.end();
    }

    private static BellParliament busy() {
        BellParliament x = Check.chamber(5, 3, 7, 2);
        x.leave(3);
        x.introduce(0, 10, 20);
        x.introduce(1, 0, 5);
        x.voteFor(0, 0);
        x.voteAgainst(0, 1);
        x.propose(0, 0, 3);
        x.propose(0, 2, 15);
        x.save();
        x.restore();
        return x;
    }

    private static void everyChange() {
        undone("addMember", x -> x.addMember(2, 2));
        undone("enter", x -> x.enter(3));
        undone("leave", x -> x.leave(2));
        undone("setQuorum", x -> x.setQuorum(1));
        undone("setQuorum to the same", x -> x.setQuorum(3));
        undone("introduce", x -> x.introduce(2, 1, 2));
        undone("voteFor", x -> x.voteFor(0, 1));
        undone("voteFor again", x -> x.voteFor(0, 0));
        undone("voteAgainst", x -> x.voteAgainst(0, 0));
        undone("closeReading", x -> x.closeReading(1));
        undone("propose", x -> x.propose(0, 1, 63));
        undone("support", x -> x.support(0, 1, 0));
        undone("support again", x -> x.support(0, 0, 0));
        undone("decide without success", x -> x.decide(0));
        undone("ride", x -> x.ride(0, 0, 30));
        undone("run", x -> Check.runText(x, "yes 0 2"));
        undone("run of several", x -> Check.runText(x, "enter 3;leave 0;ride 1 1 30;amend 0 1 1"));
        accepted();
        passedAndFallen();
    }

    interface Change {
        void on(BellParliament x);
    }

    private static void undone(String name, Change change) {
        BellParliament x = busy();
        String before = Check.stateOf(x);
        Check.due(53, name + ": nothing to undo before", Check.STATE, x::undo);
        change.on(x);
        Check.due(53, name + ": one change", 0, x::undo);
        Check.due(53, name + ": as before", before, () -> Check.stateOf(x));
        Check.due(53, name + ": nothing to undo behind", Check.STATE, x::undo);
        Check.due(53, name + ": still as before", before, () -> Check.stateOf(x));
        change.on(x);
        String after = Check.stateOf(x);
        BellParliament y = busy();
        change.on(y);
        Check.due(53, name + ": again", Check.stateOf(y), () -> after);
    }

    private static void accepted() {
        BellParliament x = busy();
        x.support(0, 0, 1);
        String before = Check.stateOf(x);
        Check.due(53, "accepted", true, () -> x.decide(0));
        Check.due(53, "accepted", 1, x::acceptedCount);
        Check.due(53, "one more", 1, x::undo);
        Check.due(53, "not accepted", before, () -> Check.stateOf(x));
    }

    private static void passedAndFallen() {
        BellParliament x = busy();
        for (int i = 0; i < 6; i++) {
            x.ride(0, 0, 30);
        }
        Check.due(53, "fallen", 1, x::fallenCount);
        Check.due(53, "five more", 5, x::undo);
        Check.due(53, "open", true, () -> x.isOpen(0));
        Check.due(53, "votes are back", 5, () -> x.weightFor(0));
        Check.due(53, "amendments are back", 2, () -> x.pendingCount(0));
        Check.due(53, "delay", 150, () -> x.delay(0));
        for (int i = 0; i < 3; i++) {
            x.voteFor(1, 0);
            x.closeReading(1);
        }
        Check.due(53, "passed", true, () -> x.isPassed(1));
        x.undo();
        Check.due(53, "not passed", 2, () -> x.readings(1));
        Check.due(53, "the last vote is back", 5, () -> x.weightFor(1));
    }

    private static void onlyEight() {
        BellParliament x = new BellParliament();
        Check.due(53, "new", Check.STATE, x::undo);
        for (int i = 1; i <= 21; i++) {
            x.setQuorum(i);
        }
        for (int i = 7; i >= 0; i--) {
            int left = i;
            Check.due(53, "left", left, x::undo);
            Check.due(53, "quorum", 13 + left, x::quorum);
        }
        Check.due(53, "the ninth", Check.STATE, x::undo);
        Check.due(53, "quorum", 13, x::quorum);
        x.setQuorum(1);
        x.setQuorum(2);
        Check.due(53, "new changes", 1, x::undo);
        x.setQuorum(3);
        Check.due(53, "instead of the undone one", 1, x::undo);
        Check.due(53, "quorum", 1, x::quorum);
        Check.due(53, "first", 0, x::undo);
        Check.due(53, "quorum", 13, x::quorum);
    }

    private static void refusedCallsAreNoChanges() {
        BellParliament x = busy();
        x.setQuorum(2);
        for (int i = 0; i < 9; i++) {
            Check.answerOf(() -> x.enter(0));
            Check.answerOf(() -> x.setQuorum(0));
            Check.answerOf(() -> x.voteFor(0, 3));
            Check.answerOf(() -> Check.runText(x, "leave 0;leave 0"));
            Check.answerOf(() -> Check.runText(x, "leave 0;leave"));
            x.isConsistent();
            x.describeBill(0);
            x.save();
        }
        Check.due(53, "the one change", 0, x::undo);
        Check.due(53, "quorum", 3, x::quorum);
        for (int i = 1; i <= 8; i++) {
            x.setQuorum(i);
        }
        Check.answerOf(() -> Check.runText(x, "leave 0;leave 0"));
        for (int i = 0; i < 8; i++) {
            x.undo();
        }
        Check.due(53, "a failed run takes no place", 3, x::quorum);
    }

    private static void runIsOneChange() {
        BellParliament x = new BellParliament();
        x.setQuorum(5);
        Check.due(45, "run", "4", () -> Check.runText(x, "member 05;enter 0;quorum 1;bill 0 0-9"));
        Check.due(53, "one", 1, x::undo);
        Check.due(53, "no members", 0, x::memberCount);
        Check.due(53, "no bills", 0, x::billCount);
        Check.due(53, "quorum", 5, x::quorum);
        Check.due(53, "the other", 0, x::undo);
        Check.due(53, "quorum", 3, x::quorum);
    }

    private static void snapshot() {
        BellParliament x = new BellParliament();
        Check.due(55, "none", Check.STATE, x::restore);
        Check.due(54, "empty", 0, x::save);
        Check.due(55, "empty", 0, x::restore);
        BellParliament y = busy();
        y.support(0, 0, 1);
        y.decide(0);
        String saved = Check.stateOf(y);
        Check.due(54, "bills", 2, y::save);
        Check.due(54, "nothing changes", saved, () -> Check.stateOf(y));
        y.introduce(0, 1, 1);
        y.addMember(1, 1);
        y.closeReading(1);
        y.ride(2, 0, 30);
        y.setQuorum(1);
        y.leave(1);
        y.voteFor(0, 2);
        Check.due(55, "bills", 2, y::restore);
        Check.due(55, "as saved", saved, () -> Check.stateOf(y));
        Check.due(55, "nothing to undo", Check.STATE, y::undo);
        y.introduce(0, 1, 1);
        Check.due(55, "kept", 2, y::restore);
        Check.due(55, "as saved", saved, () -> Check.stateOf(y));
        y.introduce(0, 1, 1);
        String newer = Check.stateOf(y);
        Check.due(54, "replaces", 3, y::save);
        y.leave(0);
        Check.due(55, "the newer", 3, y::restore);
        Check.due(55, "the newer", newer, () -> Check.stateOf(y));
    }

    private static void snapshotAndUndo() {
        BellParliament x = busy();
        x.setQuorum(1);
        x.save();
        Check.due(54, "save is no change", 0, x::undo);
        Check.due(53, "quorum", 3, x::quorum);
        Check.due(55, "what undo took back is still saved", 2, x::restore);
        Check.due(55, "quorum", 1, x::quorum);
        x.setQuorum(7);
        x.setQuorum(8);
        x.restore();
        x.setQuorum(9);
        Check.due(55, "only what came behind restore", 0, x::undo);
        Check.due(55, "quorum", 1, x::quorum);
        Check.due(55, "nothing more", Check.STATE, x::undo);
    }

    /** What takes the place of an undone member or bill must not show in the snapshot. */
    private static void snapshotIsApart() {
        BellParliament x = Check.chamber(5, 3, 7);
        x.addMember(2, 6);
        x.save();
        x.undo();
        x.addMember(1, 4);
        Check.due(53, "ward of the new one", 1, () -> x.wardOf(3));
        Check.due(53, "weight of the new one", 4, () -> x.weightOf(3));
        x.restore();
        Check.due(55, "ward of the saved one", 2, () -> x.wardOf(3));
        Check.due(55, "weight of the saved one", 6, () -> x.weightOf(3));
        x.introduce(0, 3, 4);
        x.save();
        x.undo();
        x.introduce(0, 5, 9);
        x.voteFor(0, 1);
        x.propose(0, 1, 8);
        x.ride(0, 0, 30);
        Check.due(53, "the new bill", "0o0:5+3-0", () -> describe(x));
        x.undo();
        x.undo();
        x.undo();
        x.undo();
        x.introduce(0, 6, 6);
        Check.due(53, "a bill begins anew", "0o0:1+0-0", () -> describe(x));
        Check.due(53, "without delay", 0, () -> x.delay(0));
        Check.due(53, "without amendments", 0, () -> x.pendingCount(0));
        x.restore();
        Check.due(55, "the saved bill", "0o0:2+0-0", () -> describe(x));
        Check.due(55, "its clauses", 24L, () -> x.clauses(0));
    }

    private static String describe(BellParliament x) {
        x.describeBill(0);
        return Check.line(x);
    }
}
