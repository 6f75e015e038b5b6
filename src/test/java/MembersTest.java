/** Promises 1 to 14: a new object, members and quorum. */
public final class MembersTest {
    public static void main(String[] args) {
        newObject();
        addMember();
        enterAndLeave();
        quorum();
        memberQueries();
        wards();
        Check.end();
    }

    private static void newObject() {
        BellParliament x = new BellParliament();
        Check.due(1, "members", 0, x::memberCount);
        Check.due(1, "bills", 0, x::billCount);
        Check.due(1, "mask", 0, x::presentMask);
        Check.due(1, "quorum", 3, x::quorum);
        Check.due(1, "quorate", false, x::isQuorate);
        Check.due(1, "strongest ward", 0, x::strongestWard);
        Check.due(1, "passed", 0, x::passedCount);
        Check.due(1, "fallen", 0, x::fallenCount);
        Check.due(1, "accepted", 0, x::acceptedCount);
        Check.due(1, "consistent", true, x::isConsistent);
        Check.due(1, "rank 0", Check.ELEMENT, () -> x.billAtRank(0));
        BellParliament y = new BellParliament();
        x.addMember(0, 1);
        Check.due(1, "objects are apart", 0, y::memberCount);
    }

    private static void addMember() {
        BellParliament x = new BellParliament();
        for (int ward : new int[] {-1, 4, Check.LOW, Check.HIGH}) {
            Check.due(2, "ward " + ward, Check.INDEX, () -> x.addMember(ward, 1));
            Check.due(2, "ward before weight", Check.INDEX, () -> x.addMember(ward, 0));
        }
        for (int weight : new int[] {0, 8, -1, Check.LOW, Check.HIGH}) {
            Check.due(2, "weight " + weight, Check.ARGUMENT, () -> x.addMember(0, weight));
        }
        Check.due(2, "refused members", 0, x::memberCount);
        for (int i = 0; i < 24; i++) {
            int member = i;
            Check.due(2, "member", member, () -> x.addMember(member % 4, member % 7 + 1));
            Check.due(2, "not present", false, () -> x.isPresent(member));
        }
        Check.due(2, "member 24", Check.STATE, () -> x.addMember(3, 7));
        Check.due(2, "ward before the limit", Check.INDEX, () -> x.addMember(4, 7));
        Check.due(2, "weight before the limit", Check.ARGUMENT, () -> x.addMember(3, 8));
        Check.due(2, "members at the limit", 24, x::memberCount);
    }

    private static void enterAndLeave() {
        BellParliament x = new BellParliament();
        Check.due(3, "nobody", Check.INDEX, () -> x.enter(0));
        Check.due(4, "nobody", Check.INDEX, () -> x.leave(0));
        x.addMember(0, 5);
        x.addMember(1, 3);
        for (int member : new int[] {-1, 2, 24, 32, Check.LOW, Check.HIGH}) {
            Check.due(3, "member " + member, Check.INDEX, () -> x.enter(member));
            Check.due(4, "member " + member, Check.INDEX, () -> x.leave(member));
        }
        Check.due(4, "not there", Check.STATE, () -> x.leave(1));
        Check.due(3, "first", 1, () -> x.enter(1));
        Check.due(3, "again", Check.STATE, () -> x.enter(1));
        Check.due(3, "second", 2, () -> x.enter(0));
        x.introduce(0, 0, 3);
        x.voteFor(0, 0);
        x.propose(0, 0, 9);
        Check.due(4, "leaves", 1, () -> x.leave(0));
        Check.due(4, "again", Check.STATE, () -> x.leave(0));
        Check.due(4, "the vote stays", 5, () -> x.weightFor(0));
        Check.due(4, "the support stays", 5, () -> x.supportWeight(0, 0));
        Check.due(4, "last", 0, () -> x.leave(1));
        Check.due(3, "back", 1, () -> x.enter(0));
    }

    private static void quorum() {
        BellParliament x = new BellParliament();
        for (int members : new int[] {0, 25, -1, Check.LOW, Check.HIGH}) {
            Check.due(5, "quorum " + members, Check.ARGUMENT, () -> x.setQuorum(members));
        }
        Check.due(11, "first", 3, x::quorum);
        Check.due(5, "24", 3, () -> x.setQuorum(24));
        Check.due(5, "1", 24, () -> x.setQuorum(1));
        Check.due(5, "1 again", 1, () -> x.setQuorum(1));
        Check.due(11, "then", 1, x::quorum);
        Check.due(12, "nobody", false, x::isQuorate);
        x.addMember(0, 7);
        x.addMember(0, 7);
        Check.due(12, "members who are out", false, x::isQuorate);
        x.enter(0);
        Check.due(12, "just enough", true, x::isQuorate);
        x.setQuorum(2);
        Check.due(12, "one too few, whatever they weigh", false, x::isQuorate);
        x.enter(1);
        Check.due(12, "two", true, x::isQuorate);
        x.setQuorum(1);
        Check.due(12, "more than enough", true, x::isQuorate);
    }

    private static void memberQueries() {
        BellParliament x = new BellParliament();
        Check.due(6, "none", 0, x::memberCount);
        for (int i = 0; i < 24; i++) {
            x.addMember(3 - i % 4, 7 - i % 7);
        }
        Check.due(6, "all", 24, x::memberCount);
        x.enter(0);
        x.enter(23);
        for (int i = 0; i < 24; i++) {
            int member = i;
            Check.due(7, "member " + i, 3 - i % 4, () -> x.wardOf(member));
            Check.due(8, "member " + i, 7 - i % 7, () -> x.weightOf(member));
            Check.due(9, "member " + i, i == 0 || i == 23, () -> x.isPresent(member));
        }
        Check.due(10, "mask", 1 | 1 << 23, x::presentMask);
        x.leave(0);
        Check.due(10, "mask", 1 << 23, x::presentMask);
        for (int member : new int[] {-1, 24, 32, Check.LOW, Check.HIGH}) {
            Check.due(7, "member " + member, Check.INDEX, () -> x.wardOf(member));
            Check.due(8, "member " + member, Check.INDEX, () -> x.weightOf(member));
            Check.due(9, "member " + member, Check.INDEX, () -> x.isPresent(member));
        }
        BellParliament y = Check.chamber(1);
        Check.due(7, "not yet", Check.INDEX, () -> y.wardOf(1));
        Check.due(8, "not yet", Check.INDEX, () -> y.weightOf(1));
        Check.due(9, "not yet", Check.INDEX, () -> y.isPresent(1));
    }

    private static void wards() {
        BellParliament x = Check.chamber(1, 5, 5, 2, 3);
        for (int ward : new int[] {-1, 4, Check.LOW, Check.HIGH}) {
            Check.due(13, "ward " + ward, Check.INDEX, () -> x.wardWeight(ward));
        }
        Check.due(13, "ward 0", 4, () -> x.wardWeight(0));
        Check.due(13, "ward 1", 5, () -> x.wardWeight(1));
        Check.due(13, "ward 2", 5, () -> x.wardWeight(2));
        Check.due(13, "ward 3", 2, () -> x.wardWeight(3));
        Check.due(14, "the lower of two", 1, x::strongestWard);
        x.leave(4);
        Check.due(13, "without who is out", 1, () -> x.wardWeight(0));
        x.leave(1);
        Check.due(13, "empty", 0, () -> x.wardWeight(1));
        Check.due(14, "after leaving", 2, x::strongestWard);
        x.leave(2);
        Check.due(14, "the last ward", 3, x::strongestWard);
        x.leave(3);
        x.leave(0);
        Check.due(14, "all even", 0, x::strongestWard);
    }
}
