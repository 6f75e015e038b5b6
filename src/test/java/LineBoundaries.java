/** Boundaries of promises 48 to 52. */
final class LineBoundaries {
    private static final String NO_BILL = "Throws `IndexOutOfBoundsException` if there is no such bill";

    private LineBoundaries() {
    }

    static void test() {
        describeBill();
        lineAt();
        meanWeight();
        shareBits();
        isConsistent();
    }

    private static void describeBill() {
        Boundaries.says(48, "Writes a bill to the line, replacing its previous content:", () -> {
            BellParliament x = Boundaries.busy();
            x.introduce(0, 0, 63);
            describes(x, 0, "0o0*:11+5-3");
            describes(x, 1, "1f0:10");
            describes(x, 2, "2p3:1");
            describes(x, 3, "3o0:64+0-0");
            x.undo();
            Boundaries.due("no such bill any more", Check.INDEX, () -> x.describeBill(3));
            Boundaries.due("no such bill any more, the line stays", "3o0:64+0-0", () -> Check.line(x));
        });
        Boundaries.says(48,
                "its number, \"o\", \"p\" or \"f\" if it is open, passed or fallen, the number of readings", () -> {
            BellParliament x = Boundaries.bills(8);
            x.setQuorum(1);
            for (int bill = 0; bill < 8; bill++) {
                describes(x, bill, bill + "o0:3+0-0");
                for (int reading = 1; reading <= bill % 3; reading++) {
                    x.voteFor(bill, 0);
                    x.closeReading(bill);
                    describes(x, bill, bill + "o" + reading + ":3+0-0");
                }
                x.voteFor(bill, 0);
                x.voteAgainst(bill, bill % 2);
                boolean success = x.closeReading(bill);
                String status = !success ? "f" : bill % 3 == 2 ? "p" : "o";
                int readings = bill % 3 + (success ? 1 : 0);
                describes(x, bill, bill + status + readings + ":3" + (status.equals("o") ? "+0-0" : ""));
            }
        });
        Boundaries.says(48, "\"*\" for each unit of rust", () -> {
            BellParliament x = Boundaries.bills(1);
            String[] lines = {"0o0:3+0-0", "0o0*:3+0-0", "0o0**:3+0-0", "0f0***:3"};
            for (int minutes = 0; minutes <= 180; minutes++) {
                if (minutes > 0) {
                    x.ride(0, 0, 1);
                }
                if (minutes % 60 == 0 || minutes % 60 == 59) {
                    describes(x, 0, lines[minutes / 60]);
                }
            }
        });
        Boundaries.says(48, "\":\" and the number of clauses", () -> {
            for (int count = 1; count <= 64; count++) {
                BellParliament x = Check.chamber(1);
                x.introduce(0, 64 - count, 63);
                describes(x, 0, "0o0:" + count + "+0-0");
            }
            BellParliament x = Check.chamber(1);
            x.setQuorum(1);
            x.introduce(0, 63, 63);
            Boundaries.turn(x, 0, 63);
            describes(x, 0, "0o0:0+0-0");
        });
        Boundaries.says(48, "if it is open, \"+\" and the weight of the votes for it, \"-\" and the weight of the votes "
                + "against it", () -> {
            BellParliament x = Boundaries.fullChamber();
            x.introduce(0, 0, 63);
            for (int member = 0; member < 24; member++) {
                x.voteFor(0, member);
            }
            describes(x, 0, "0o0:64+168-0");
            for (int member = 0; member < 24; member++) {
                x.voteAgainst(0, member);
                describes(x, 0, "0o0:64+" + (161 - 7 * member) + "-" + (7 + 7 * member));
            }
            x.closeReading(0);
            describes(x, 0, "0f0:64");
            votesByOnes(8, 1);
            votesByOnes(14, 7);
        });
        Boundaries.says(48, "An example is \"3o1**:12+7-4\".", () -> {
            BellParliament x = Check.chamber(4, 3, 4);
            for (int bill = 0; bill < 4; bill++) {
                x.introduce(0, 52, 63);
            }
            x.voteFor(3, 0);
            x.closeReading(3);
            for (int ride = 0; ride < 4; ride++) {
                x.ride(0, 3, 30);
            }
            x.voteFor(3, 0);
            x.voteFor(3, 1);
            x.voteAgainst(3, 2);
            describes(x, 3, "3o1**:12+7-4");
        });
        Boundaries.says(48, "Returns the length of the line.", () -> {
            BellParliament x = Boundaries.fullChamber();
            x.introduce(0, 0, 63);
            for (int reading = 0; reading < 2; reading++) {
                x.voteFor(0, 0);
                x.closeReading(0);
            }
            for (int ride = 0; ride < 4; ride++) {
                x.ride(0, 0, 30);
            }
            for (int member = 0; member < 24; member++) {
                x.voteFor(0, member);
            }
            Boundaries.due("a long one", 14, () -> x.describeBill(0));
            for (int member = 0; member < 9; member++) {
                x.voteAgainst(0, member);
            }
            Boundaries.due("the longest", 15, () -> x.describeBill(0));
            x.introduce(0, 0, 0);
            Boundaries.due("a short one of an open bill", 9, () -> x.describeBill(1));
            x.closeReading(1);
            Boundaries.due("the shortest", 5, () -> x.describeBill(1));
        });
        Boundaries.says(48, NO_BILL, () -> BillBoundaries.noBill(BellParliament::describeBill, 9));
    }

    private static void describes(BellParliament x, int bill, String line) {
        Boundaries.due(line, line.length() + " " + line, () -> x.describeBill(bill) + " " + Check.line(x));
    }

    /** Some votes with the weight given, and then four votes of 1, past a number with one digit more. */
    private static void votesByOnes(int count, int weight) {
        BellParliament x = Boundaries.members(count, weight);
        for (int i = 0; i < 4; i++) {
            x.addMember(0, 1);
        }
        for (int member = 0; member < count + 4; member++) {
            x.enter(member);
        }
        x.introduce(0, 0, 0);
        for (int member = 0; member < count + 4; member++) {
            x.voteFor(0, member);
            int sum = weight * Math.min(member + 1, count) + Math.max(member + 1 - count, 0);
            describes(x, 0, "0o0:1+" + sum + "-0");
        }
        for (int member = 0; member < count; member++) {
            x.voteAgainst(0, member);
        }
        for (int i = 0; i < 4; i++) {
            x.voteAgainst(0, count + i);
            describes(x, 0, "0o0:1+" + (3 - i) + "-" + (weight * count + i + 1));
        }
    }

    private static void lineAt() {
        Boundaries.says(49, "The line is initially empty.", () -> {
            for (int index : new int[] {0, 1, -1, Check.LOW, Check.HIGH}) {
                Boundaries.refused("index " + index, Check.INDEX, BellParliament::new, x -> x.lineAt(index));
            }
            Boundaries.refused("with bills", Check.INDEX, () -> Boundaries.bills(8), x -> x.lineAt(0));
        });
        Boundaries.says(49, "Throws `IndexOutOfBoundsException` if there is no such index", () -> {
            Boundaries.refusedNumbers("index", Check.INDEX, Boundaries::busy, Boundaries.outside(5),
                    BellParliament::lineAt);
            Boundaries.due("first", '2', () -> Boundaries.busy().lineAt(0));
            Boundaries.due("last", '1', () -> Boundaries.busy().lineAt(4));
            BellParliament x = Boundaries.busy();
            x.describeBill(0);
            x.describeBill(2);
            for (int i = 5; i < 30; i++) {
                int index = i;
                Boundaries.due("of the longer line before", Check.INDEX, () -> x.lineAt(index));
            }
        });
    }

    private static void meanWeight() {
        Boundaries.says(50, "the sum divided by their number, both converted to double", () -> {
            Boundaries.due("one", 7.0, () -> Boundaries.members(1, 7).meanWeight());
            for (int n = 1; n <= 24; n++) {
                int count = n;
                BellParliament x = Boundaries.members(count, 3);
                Boundaries.due("even weights", 3.0, x::meanWeight);
                if (count < 24) {
                    x.addMember(0, 7);
                    double mean = (3.0 * count + 7.0) / (count + 1.0);
                    Boundaries.due("one heavier", mean, x::meanWeight);
                }
            }
            Boundaries.due("24 of 7", 7.0, () -> Boundaries.fullChamber().meanWeight());
        });
        Boundaries.says(50, "Throws `ArithmeticException` if there are no members", () -> {
            Boundaries.refused("new", Check.ARITHMETIC, BellParliament::new, BellParliament::meanWeight);
            Boundaries.refused("undone", Check.ARITHMETIC, () -> {
                BellParliament x = Boundaries.members(1, 1);
                x.undo();
                return x;
            }, BellParliament::meanWeight);
            Boundaries.due("nobody present", 1.0, () -> Boundaries.members(1, 1).meanWeight());
        });
    }

    private static void shareBits() {
        Boundaries.says(51, "the weight of the votes for it divided by the weight of all votes on it, both converted to "
                + "float", () -> {
            for (int sum = 1; sum <= 168; sum++) {
                for (int weightFor = 0; weightFor <= sum; weightFor++) {
                    if (weightFor % 7 == 0 && (sum - weightFor) % 7 == 0 || sum <= 24) {
                        shareOf(weightFor, sum);
                    }
                }
            }
        });
        Boundaries.says(51, NO_BILL, () -> BillBoundaries.noBill(BellParliament::shareBits, Check.ARITHMETIC));
        Boundaries.says(51, "Throws `ArithmeticException` if there are no votes on the bill", () -> {
            Boundaries.refused("none yet", Check.ARITHMETIC, () -> Boundaries.bills(1), x -> x.shareBits(0));
            Boundaries.refused("fallen", Check.ARITHMETIC, Boundaries::busy, x -> x.shareBits(1));
            Boundaries.refused("passed", Check.ARITHMETIC, Boundaries::busy, x -> x.shareBits(2));
            Boundaries.due("one for", Float.floatToIntBits(1.0f), () -> {
                BellParliament x = Boundaries.bills(2);
                x.voteFor(1, 1);
                return x.shareBits(1);
            });
            Boundaries.due("one against", 0, () -> {
                BellParliament x = Boundaries.bills(2);
                x.voteAgainst(1, 1);
                return x.shareBits(1);
            });
        });
    }

    /** As many members as are needed, of 7 or of 1 each. */
    private static void shareOf(int weightFor, int sum) {
        int each = sum <= 24 ? 1 : 7;
        BellParliament x = new BellParliament();
        for (int member = 0; member < sum / each; member++) {
            x.addMember(0, each);
            x.enter(member);
        }
        x.introduce(0, 0, 0);
        for (int member = 0; member < sum / each; member++) {
            if (member < weightFor / each) {
                x.voteFor(0, member);
            } else {
                x.voteAgainst(0, member);
            }
        }
        Boundaries.due(weightFor + " of " + sum, Float.floatToIntBits((float) weightFor / (float) sum),
                () -> x.shareBits(0));
    }

    private static void isConsistent() {
        Boundaries.says(52, "no member votes for and against the same bill", () -> {
            BellParliament x = Boundaries.fullChamber();
            x.introduce(0, 0, 63);
            for (int member = 0; member < 24; member++) {
                x.voteFor(0, member);
                x.voteAgainst(0, member);
                x.voteFor(0, member);
                Boundaries.due("both in turn", true, x::isConsistent);
            }
            Boundaries.due("one side", "168 0", () -> x.weightFor(0) + " " + x.weightAgainst(0));
        });
        Boundaries.says(52, "Returns whether all of them hold.", () -> {
            Boundaries.due("new", true, () -> new BellParliament().isConsistent());
            Boundaries.due("busy", true, () -> Boundaries.busy().isConsistent());
            BellParliament x = Boundaries.fullChamber();
            for (int bill = 0; bill < 8; bill++) {
                x.introduce(0, 0, 63 - bill);
                for (int member = 0; member < 24; member++) {
                    if (member % 2 == 0) {
                        x.voteFor(bill, member);
                    } else {
                        x.voteAgainst(bill, member);
                    }
                }
            }
            Boundaries.due("full", true, x::isConsistent);
            for (int member = 0; member < 24; member++) {
                x.leave(member);
            }
            Boundaries.due("all have left", true, x::isConsistent);
        });
    }
}
