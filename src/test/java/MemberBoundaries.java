/** Boundaries of promises 1 to 14, and of what the terms say of members. */
final class MemberBoundaries {
    private static final String NO_MEMBER = "Throws `IndexOutOfBoundsException` if there is no such member";
    private static final String NO_WARD = "Throws `IndexOutOfBoundsException` if there is no such ward";

    private MemberBoundaries() {
    }

    static void test() {
        terms();
        newObject();
        addMember();
        enter();
        leave();
        quorum();
        memberQueries();
        wards();
    }

    private static void terms() {
        Boundaries.says(Boundaries.TERMS, "There are at most 24 members, numbered from 0.", () -> {
            BellParliament x = new BellParliament();
            for (int i = 0; i < 24; i++) {
                int member = i;
                Boundaries.due("number", member, () -> x.addMember(0, 1));
            }
            Boundaries.due("one more", Check.STATE, () -> x.addMember(0, 1));
            Boundaries.due("in all", 24, x::memberCount);
        });
        Boundaries.says(Boundaries.TERMS, "A member belongs to one of the wards 0 to 3, has a weight from 1 to 7, "
                + "and is present in the chamber or not.", () -> {
            for (int w = 1; w <= 7; w++) {
                BellParliament x = new BellParliament();
                int weight = w;
                for (int i = 0; i < 4; i++) {
                    int ward = i;
                    Boundaries.due("added", ward, () -> x.addMember(ward, weight));
                    Boundaries.due("ward", ward, () -> x.wardOf(ward));
                    Boundaries.due("weight", weight, () -> x.weightOf(ward));
                    Boundaries.due("present", false, () -> x.isPresent(ward));
                }
            }
            for (int number : Boundaries.outside(0, 3)) {
                Boundaries.due("ward " + number, Check.INDEX, () -> new BellParliament().addMember(number, 1));
            }
            for (int number : Boundaries.outside(1, 7)) {
                Boundaries.due("weight " + number, Check.ARGUMENT, () -> new BellParliament().addMember(0, number));
            }
        });
        Boundaries.says(Boundaries.TERMS, "The quorum is a number of members, initially 3.", () -> {
            Boundaries.due("initially", 3, () -> new BellParliament().quorum());
            Boundaries.due("two heavy members", false, () -> Check.chamber(7, 7).isQuorate());
            Boundaries.due("three light members", true, () -> Check.chamber(1, 1, 1).isQuorate());
        });
    }

    private static void newObject() {
        Boundaries.says(1, "Creates a parliament without members and bills.", () -> {
            BellParliament x = new BellParliament();
            Boundaries.due("members", 0, x::memberCount);
            Boundaries.due("bills", 0, x::billCount);
            Boundaries.due("member 0", Check.INDEX, () -> x.isPresent(0));
            Boundaries.due("bill 0", Check.INDEX, () -> x.isOpen(0));
            Boundaries.due("present", 0, x::presentMask);
            Boundaries.due("rank 0", Check.ELEMENT, () -> x.billAtRank(0));
            Boundaries.due("passed", 0, x::passedCount);
            Boundaries.due("fallen", 0, x::fallenCount);
            Boundaries.due("accepted", 0, x::acceptedCount);
            Boundaries.due("strongest of four empty wards", 0, x::strongestWard);
            Boundaries.due("mean", Check.ARITHMETIC, x::meanWeight);
            Boundaries.due("consistent", true, x::isConsistent);
            Boundaries.due("line", Check.INDEX, () -> x.lineAt(0));
            Boundaries.due("undo", Check.STATE, x::undo);
            Boundaries.due("restore", Check.STATE, x::restore);
            Boundaries.due("text", 1, () -> x.append('m'));
        });
    }

    private static void addMember() {
        Boundaries.says(2, "Adds a member, who is not present.", () -> {
            BellParliament x = Boundaries.fullChamber();
            for (int i = 0; i < 2; i++) {
                x.undo();
            }
            Boundaries.due("member 22 was in", false, () -> x.isPresent(22));
            BellParliament y = new BellParliament();
            for (int i = 0; i < 24; i++) {
                int member = i;
                y.addMember(3, 7);
                Boundaries.due("member " + i, false, () -> y.isPresent(member));
            }
            Boundaries.due("nobody is in", 0, y::presentMask);
        });
        Boundaries.says(2, "Returns the number of the member.", () -> {
            Boundaries.due("first", 0, () -> new BellParliament().addMember(3, 7));
            Boundaries.due("last", 23, () -> Boundaries.members(23, 1).addMember(0, 1));
            BellParliament x = Boundaries.members(2, 5);
            x.undo();
            Boundaries.due("of an undone one", 1, () -> x.addMember(0, 1));
        });
        Boundaries.says(2, NO_WARD, () -> {
            Boundaries.refusedNumbers("ward", Check.INDEX, Boundaries::busy, Boundaries.outside(4),
                    (x, ward) -> x.addMember(ward, 1));
            Boundaries.due("ward 0", 4, () -> Boundaries.busy().addMember(0, 1));
            Boundaries.due("ward 3", 4, () -> Boundaries.busy().addMember(3, 1));
        });
        Boundaries.says(2, "Throws `IllegalArgumentException` if the weight is not from 1 to 7", () -> {
            Boundaries.refusedNumbers("weight", Check.ARGUMENT, Boundaries::busy, Boundaries.outside(1, 7),
                    (x, weight) -> x.addMember(0, weight));
            Boundaries.due("weight 1", 4, () -> Boundaries.busy().addMember(0, 1));
            Boundaries.due("weight 7", 4, () -> Boundaries.busy().addMember(0, 7));
        });
        Boundaries.says(2, "Throws `IllegalStateException` if there are 24 members", () -> {
            Boundaries.refused("full and in", Check.STATE, Boundaries::fullChamber, x -> x.addMember(0, 1));
            Boundaries.refused("full and out", Check.STATE, () -> Boundaries.members(24, 1), x -> x.addMember(3, 7));
            BellParliament x = Boundaries.members(24, 1);
            x.undo();
            Boundaries.due("23 again", 23, () -> x.addMember(0, 1));
        });
    }

    private static void enter() {
        Boundaries.says(3, "Returns the number of present members after the call.", () -> {
            BellParliament x = Boundaries.members(24, 1);
            for (int i = 0; i < 24; i++) {
                int member = 23 - i;
                Boundaries.due("member " + member, i + 1, () -> x.enter(member));
            }
        });
        Boundaries.says(3, NO_MEMBER, () -> {
            Boundaries.refused("nobody there", Check.INDEX, BellParliament::new, x -> x.enter(0));
            Boundaries.refusedNumbers("member", Check.INDEX, Boundaries::busy, Boundaries.outside(4),
                    BellParliament::enter);
            Boundaries.refusedNumbers("of 24", Check.INDEX, () -> Boundaries.members(24, 1), Boundaries.outside(24),
                    BellParliament::enter);
            Boundaries.due("the first", 1, () -> Boundaries.members(24, 1).enter(0));
            Boundaries.due("the last", 1, () -> Boundaries.members(24, 1).enter(23));
        });
        Boundaries.says(3, "Throws `IllegalStateException` if the member is present", () -> {
            Boundaries.refused("present", Check.STATE, Boundaries::busy, x -> x.enter(0));
            Boundaries.refused("the last", Check.STATE, Boundaries::fullChamber, x -> x.enter(23));
            Boundaries.due("back after leaving", "3 4", () -> {
                BellParliament x = Check.chamber(1, 1, 1, 1);
                return x.leave(2) + " " + x.enter(2);
            });
        });
    }

    private static void leave() {
        Boundaries.says(4, "Votes and supports of the member stay and count.", () -> {
            BellParliament x = Check.chamber(7, 6, 1);
            x.introduce(0, 0, 9);
            x.voteFor(0, 0);
            x.voteAgainst(0, 1);
            x.propose(0, 0, 20);
            x.support(0, 0, 1);
            x.leave(0);
            x.leave(1);
            x.setQuorum(1);
            Boundaries.due("for", 7, () -> x.weightFor(0));
            Boundaries.due("for, by digits", 7, () -> x.weightForByDigits(0));
            Boundaries.due("against", 6, () -> x.weightAgainst(0));
            Boundaries.due("supporters", 13, () -> x.supportWeight(0, 0));
            Boundaries.due("13 of 1 present", true, () -> x.decide(0));
            Boundaries.due("7 against 6", true, () -> x.closeReading(0));
        });
        Boundaries.says(4, "Returns the number of present members after the call.", () -> {
            BellParliament x = Boundaries.fullChamber();
            for (int i = 0; i < 24; i++) {
                int member = i;
                Boundaries.due("member " + member, 23 - member, () -> x.leave(member));
            }
        });
        Boundaries.says(4, NO_MEMBER, () -> {
            Boundaries.refused("nobody there", Check.INDEX, BellParliament::new, x -> x.leave(0));
            Boundaries.refusedNumbers("member", Check.INDEX, Boundaries::busy, Boundaries.outside(4),
                    BellParliament::leave);
            Boundaries.refusedNumbers("of 24", Check.INDEX, Boundaries::fullChamber, Boundaries.outside(24),
                    BellParliament::leave);
            Boundaries.due("the first", 23, () -> Boundaries.fullChamber().leave(0));
            Boundaries.due("the last", 23, () -> Boundaries.fullChamber().leave(23));
        });
        Boundaries.says(4, "Throws `IllegalStateException` if the member is not present", () -> {
            Boundaries.refused("out", Check.STATE, Boundaries::busy, x -> x.leave(3));
            Boundaries.refused("never in", Check.STATE, () -> Boundaries.members(24, 1), x -> x.leave(23));
            Boundaries.refused("twice", Check.STATE, () -> {
                BellParliament x = Boundaries.busy();
                x.leave(2);
                return x;
            }, x -> x.leave(2));
        });
    }

    private static void quorum() {
        Boundaries.says(5, "Returns the previous quorum.", () -> {
            BellParliament x = new BellParliament();
            Boundaries.due("the initial one", 3, () -> x.setQuorum(24));
            Boundaries.due("the greatest", 24, () -> x.setQuorum(1));
            Boundaries.due("the least", 1, () -> x.setQuorum(1));
            Boundaries.due("the same", 1, () -> x.setQuorum(2));
        });
        Boundaries.says(5, "Throws `IllegalArgumentException` if the quorum is not from 1 to 24", () -> {
            Boundaries.refusedNumbers("quorum", Check.ARGUMENT, Boundaries::busy, Boundaries.outside(1, 24),
                    BellParliament::setQuorum);
            Boundaries.due("more than there are members", "3 24", () -> {
                BellParliament x = Boundaries.busy();
                return x.setQuorum(24) + " " + x.quorum();
            });
        });
        Boundaries.says(12, "whether at least as many members are present as the quorum says", () -> {
            for (int q = 1; q <= 24; q++) {
                BellParliament x = Boundaries.members(24, 7);
                x.setQuorum(q);
                Boundaries.due("0 of " + q, false, x::isQuorate);
                for (int present = 1; present <= 24; present++) {
                    x.enter(present - 1);
                    Boundaries.due(present + " of " + q, present >= q, x::isQuorate);
                }
            }
        });
    }

    private static void memberQueries() {
        Boundaries.says(6, "Returns the number of members.", () -> {
            Boundaries.due("none", 0, () -> new BellParliament().memberCount());
            Boundaries.due("one", 1, () -> Boundaries.members(1, 1).memberCount());
            Boundaries.due("all", 24, () -> Boundaries.members(24, 1).memberCount());
        });
        Boundaries.says(7, NO_MEMBER, () -> noMember(BellParliament::wardOf, 3));
        Boundaries.says(8, NO_MEMBER, () -> noMember(BellParliament::weightOf, 7));
        Boundaries.says(9, NO_MEMBER, () -> noMember(BellParliament::isPresent, true));
        Boundaries.says(9, "Returns whether the member is present.", () -> {
            BellParliament x = Boundaries.members(24, 1);
            for (int i = 0; i < 24; i++) {
                int member = i;
                Boundaries.due("before", false, () -> x.isPresent(member));
                x.enter(member);
                Boundaries.due("in", true, () -> x.isPresent(member));
            }
            for (int i = 0; i < 24; i += 23) {
                int member = i;
                x.leave(member);
                Boundaries.due("out again", false, () -> x.isPresent(member));
            }
            Boundaries.due("who stayed", true, () -> x.isPresent(1));
        });
        Boundaries.says(10, "bit k is set if the member k is present", () -> {
            BellParliament x = Boundaries.members(24, 1);
            Boundaries.due("nobody", 0, x::presentMask);
            int mask = 0;
            for (int member = 0; member < 24; member++) {
                x.enter(member);
                mask = mask * 2 + 1;
                Boundaries.due("up to " + member, mask, x::presentMask);
            }
            for (int member = 0; member < 23; member++) {
                x.leave(member);
                mask -= 1 << member;
                Boundaries.due("above " + member, mask, x::presentMask);
            }
            Boundaries.due("the last alone", 8388608, x::presentMask);
        });
        Boundaries.says(11, "Returns the quorum.", () -> {
            BellParliament x = new BellParliament();
            x.setQuorum(24);
            Boundaries.due("the greatest", 24, x::quorum);
            x.setQuorum(1);
            Boundaries.due("the least", 1, x::quorum);
        });
    }

    private static void noMember(Boundaries.UseOfNumber query, Object ofTheLast) {
        Boundaries.refused("nobody there", Check.INDEX, BellParliament::new, x -> query.of(x, 0));
        Boundaries.refusedNumbers("member", Check.INDEX, Boundaries::busy, Boundaries.outside(4), query);
        Boundaries.refusedNumbers("of 24", Check.INDEX, Boundaries::fullChamber, Boundaries.outside(24), query);
        Boundaries.due("the last", ofTheLast, () -> query.of(Boundaries.fullChamber(), 23));
        Boundaries.due("after undo", Check.INDEX, () -> {
            BellParliament x = Boundaries.members(24, 7);
            x.undo();
            return query.of(x, 23);
        });
    }

    private static void wards() {
        Boundaries.says(13, "Returns the sum of the weights of the present members of a ward.", () -> {
            BellParliament x = new BellParliament();
            Boundaries.due("empty", 0, () -> x.wardWeight(3));
            for (int i = 0; i < 24; i++) {
                x.addMember(3, 7);
            }
            Boundaries.due("nobody present", 0, () -> x.wardWeight(3));
            for (int i = 0; i < 24; i++) {
                int sum = 7 * (i + 1);
                x.enter(i);
                Boundaries.due("present", sum, () -> x.wardWeight(3));
            }
            for (int ward = 0; ward < 3; ward++) {
                int other = ward;
                Boundaries.due("the others", 0, () -> x.wardWeight(other));
            }
        });
        Boundaries.says(13, NO_WARD, () -> {
            Boundaries.refusedNumbers("ward", Check.INDEX, Boundaries::busy, Boundaries.outside(4),
                    BellParliament::wardWeight);
            Boundaries.due("ward 0", 42, () -> Boundaries.fullChamber().wardWeight(0));
            Boundaries.due("ward 3", 42, () -> Boundaries.fullChamber().wardWeight(3));
        });
        Boundaries.says(14, "Returns the ward with the greatest sum as returned by wardWeight().", () -> {
            for (int ward = 0; ward < 4; ward++) {
                int[] weights = {6, 6, 6, 6};
                weights[ward] = 7;
                int strongest = ward;
                Boundaries.due("by one", strongest, () -> Check.chamber(weights).strongestWard());
                BellParliament x = Check.chamber(weights);
                x.leave(ward);
                Boundaries.due("without who is out", strongest == 0 ? 1 : 0, x::strongestWard);
            }
            Boundaries.due("many light ones", 1, () -> Check.chamber(7, 4, 1, 1, 1, 5).strongestWard());
        });
        Boundaries.says(14, "If several wards have the greatest sum, the one with the lowest number is returned.",
                () -> {
            for (int set = 0; set < 16; set++) {
                BellParliament x = Boundaries.members(4, 5);
                for (int ward = 0; ward < 4; ward++) {
                    if ((set >> ward & 1) == 1) {
                        x.enter(ward);
                    }
                }
                int lowest = set == 0 ? 0 : Integer.numberOfTrailingZeros(set);
                Boundaries.due("wards " + Integer.toBinaryString(set), lowest, x::strongestWard);
            }
            Boundaries.due("no tie", 3, () -> Check.chamber(6, 6, 6, 7).strongestWard());
            Boundaries.due("as great by two", 0, () -> Check.chamber(3, 7, 1, 1, 4).strongestWard());
        });
    }
}
