/** Promises 31 to 36: amendments. */
public final class AmendmentsTest {
    public static void main(String[] args) {
        propose();
        support();
        decide();
        decideBounds();
        wrongDecides();
        queries();
        removedWithTheBill();
        Check.end();
    }

    private static void propose() {
        BellParliament x = Check.chamber(4, 3, 1);
        x.leave(2);
        x.setQuorum(1);
        x.introduce(0, 0, 9);
        x.introduce(0, 0, 9);
        x.closeReading(1);
        for (int number : new int[] {-1, 3, 24, Check.LOW, Check.HIGH}) {
            Check.due(31, "bill " + number, Check.INDEX, () -> x.propose(number, 0, 0));
            Check.due(31, "member " + number, Check.INDEX, () -> x.propose(0, number, 0));
        }
        for (int clause : new int[] {-1, 64, Check.LOW, Check.HIGH}) {
            Check.due(31, "clause " + clause, Check.INDEX, () -> x.propose(0, 0, clause));
            Check.due(31, "clause before fallen", Check.INDEX, () -> x.propose(1, 0, clause));
        }
        Check.due(31, "fallen", Check.STATE, () -> x.propose(1, 0, 0));
        Check.due(31, "fallen before out", Check.STATE, () -> x.propose(1, 2, 0));
        Check.due(31, "out", Check.UNSUPPORTED, () -> x.propose(0, 2, 0));
        Check.due(31, "nothing pending", 0, () -> x.pendingCount(0));
        Check.due(31, "first", 0, () -> x.propose(0, 0, 0));
        Check.due(31, "same clause again", 1, () -> x.propose(0, 1, 0));
        Check.due(31, "last clause", 2, () -> x.propose(0, 1, 63));
        Check.due(31, "fourth", 3, () -> x.propose(0, 0, 20));
        Check.due(31, "fifth", Check.STATE, () -> x.propose(0, 0, 21));
        Check.due(31, "fifth before out", Check.STATE, () -> x.propose(0, 2, 21));
        Check.due(31, "clause before fifth", Check.INDEX, () -> x.propose(0, 0, 64));
        Check.due(31, "first supporter", 4, () -> x.supportWeight(0, 0));
        Check.due(31, "first supporter", 3, () -> x.supportWeight(0, 1));
        Check.due(31, "clauses stay", 1023L, () -> x.clauses(0));
    }

    private static void support() {
        BellParliament x = Check.chamber(4, 3, 1);
        x.introduce(0, 0, 9);
        x.introduce(0, 0, 9);
        x.propose(0, 0, 5);
        x.propose(0, 1, 6);
        x.closeReading(1);
        x.leave(2);
        for (int number : new int[] {-1, 3, 24, Check.LOW, Check.HIGH}) {
            Check.due(32, "bill " + number, Check.INDEX, () -> x.support(number, 0, 0));
            Check.due(32, "member " + number, Check.INDEX, () -> x.support(0, 0, number));
        }
        for (int position : new int[] {-1, 2, 4, Check.LOW, Check.HIGH}) {
            Check.due(32, "position " + position, Check.ELEMENT, () -> x.support(0, position, 0));
            Check.due(32, "member before position", Check.INDEX, () -> x.support(0, position, 3));
            Check.due(32, "fallen before position", Check.STATE, () -> x.support(1, position, 0));
            Check.due(32, "position before out", Check.ELEMENT, () -> x.support(0, position, 2));
        }
        Check.due(32, "out", Check.UNSUPPORTED, () -> x.support(0, 0, 2));
        Check.due(32, "already", 4, () -> x.support(0, 0, 0));
        Check.due(32, "second", 7, () -> x.support(0, 0, 1));
        Check.due(32, "other amendment", 3, () -> x.supportWeight(0, 1));
        x.enter(2);
        Check.due(32, "to the second amendment", 4, () -> x.support(0, 1, 2));
        Check.due(32, "the first stays", 7, () -> x.supportWeight(0, 0));
    }

    private static void decide() {
        BellParliament x = Check.chamber(5, 3, 7);
        x.introduce(0, 10, 20);
        x.propose(0, 0, 15);
        x.support(0, 0, 1);
        x.propose(0, 2, 15);
        x.support(0, 1, 0);
        x.propose(0, 2, 63);
        x.propose(0, 1, 12);
        Check.due(33, "removes", true, () -> x.decide(0));
        Check.due(33, "removed", 0x1f7c00L, () -> x.clauses(0));
        Check.due(33, "the rest moves up", 63, () -> x.amendedClause(0, 1));
        Check.due(33, "the rest keeps its supporters", 12, () -> x.supportWeight(0, 0));
        Check.due(33, "three are left", 3, () -> x.pendingCount(0));
        Check.due(33, "adds when it is decided", true, () -> x.decide(0));
        Check.due(33, "added", 0x1ffc00L, () -> x.clauses(0));
        Check.due(33, "too light", false, () -> x.decide(0));
        Check.due(33, "left as it is", 0x1ffc00L, () -> x.clauses(0));
        Check.due(33, "one is left", 1, () -> x.pendingCount(0));
        Check.due(33, "place for a new one", 1, () -> x.propose(0, 2, 63));
        x.leave(0);
        x.setQuorum(2);
        x.support(0, 1, 1);
        x.leave(2);
        x.setQuorum(1);
        Check.due(33, "supporter alone in the chamber", true, () -> x.decide(0));
        Check.due(33, "supporters who left count", true, () -> x.decide(0));
        Check.due(33, "clause 63", 0x1fec00L | 1L << 63, () -> x.clauses(0));
        Check.due(43, "accepted", 4, x::acceptedCount);
    }

    private static void decideBounds() {
        BellParliament x = Check.chamber(4, 3, 1);
        x.introduce(0, 0, 9);
        x.propose(0, 0, 5);
        Check.due(33, "just half", false, () -> x.decide(0));
        x.propose(0, 1, 5);
        x.support(0, 0, 2);
        Check.due(33, "just half, of two", false, () -> x.decide(0));
        x.propose(0, 0, 5);
        x.support(0, 0, 2);
        Check.due(33, "just above", true, () -> x.decide(0));
        Check.due(33, "clauses", 0x3dfL, () -> x.clauses(0));
    }

    private static void wrongDecides() {
        BellParliament x = Check.chamber(4, 3, 1);
        x.introduce(0, 0, 9);
        x.introduce(0, 0, 9);
        x.closeReading(1);
        for (int bill : new int[] {-1, 2, 8, Check.LOW, Check.HIGH}) {
            Check.due(33, "bill " + bill, Check.INDEX, () -> x.decide(bill));
        }
        Check.due(33, "fallen before pending", Check.STATE, () -> x.decide(1));
        Check.due(33, "nothing pending", Check.ELEMENT, () -> x.decide(0));
        x.leave(0);
        Check.due(33, "nothing pending before quorum", Check.ELEMENT, () -> x.decide(0));
        x.propose(0, 1, 3);
        Check.due(33, "no quorum", Check.UNSUPPORTED, () -> x.decide(0));
        Check.due(33, "still pending", 1, () -> x.pendingCount(0));
    }

    private static void queries() {
        BellParliament x = Check.chamber(4, 3, 1);
        x.introduce(0, 0, 9);
        x.introduce(0, 0, 9);
        Check.due(34, "none", 0, () -> x.pendingCount(0));
        int[] clauses = {63, 0, 7, 31};
        for (int i = 0; i < 4; i++) {
            int count = i + 1;
            x.propose(0, i % 3, clauses[i]);
            Check.due(34, "some", count, () -> x.pendingCount(0));
        }
        Check.due(34, "the other bill", 0, () -> x.pendingCount(1));
        int[] weights = {4, 3, 1, 4};
        for (int i = 0; i < 4; i++) {
            int position = i;
            Check.due(35, "position " + i, clauses[i], () -> x.amendedClause(0, position));
            Check.due(36, "position " + i, weights[i], () -> x.supportWeight(0, position));
        }
        for (int position : new int[] {-1, 4, Check.LOW, Check.HIGH}) {
            Check.due(35, "position " + position, Check.ELEMENT, () -> x.amendedClause(0, position));
            Check.due(36, "position " + position, Check.ELEMENT, () -> x.supportWeight(0, position));
        }
        Check.due(35, "none", Check.ELEMENT, () -> x.amendedClause(1, 0));
        Check.due(36, "none", Check.ELEMENT, () -> x.supportWeight(1, 0));
        for (int bill : new int[] {-1, 2, 8, Check.LOW, Check.HIGH}) {
            Check.due(34, "bill " + bill, Check.INDEX, () -> x.pendingCount(bill));
            Check.due(35, "bill " + bill, Check.INDEX, () -> x.amendedClause(bill, 9));
            Check.due(36, "bill " + bill, Check.INDEX, () -> x.supportWeight(bill, 9));
        }
    }

    private static void removedWithTheBill() {
        BellParliament x = Check.chamber(4, 3, 1);
        x.introduce(0, 0, 9);
        x.propose(0, 0, 5);
        for (int i = 0; i < 6; i++) {
            x.ride(0, 0, 30);
        }
        Check.due(34, "fallen", 0, () -> x.pendingCount(0));
        Check.due(35, "fallen", Check.ELEMENT, () -> x.amendedClause(0, 0));
        Check.due(36, "fallen", Check.ELEMENT, () -> x.supportWeight(0, 0));
        Check.due(33, "fallen", Check.STATE, () -> x.decide(0));
        Check.due(43, "nothing was accepted", 0, x::acceptedCount);
    }
}
