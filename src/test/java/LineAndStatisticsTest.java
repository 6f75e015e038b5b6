import java.util.ArrayList;
import java.util.List;

/** Promises 48 to 52: line, statistics and invariants. */
public final class LineAndStatisticsTest {
    public static void main(String[] args) {
        describe();
        longLine();
        meanWeight();
        shareBits();
        consistency();
        Check.end();
    }

    private static void describe() {
        BellParliament x = Check.chamber(4, 3, 7, 5);
        Check.due(49, "at first", Check.INDEX, () -> x.lineAt(0));
        for (int i = 0; i < 4; i++) {
            x.introduce(0, 0, 11);
        }
        x.voteFor(3, 0);
        x.closeReading(3);
        for (int i = 0; i < 4; i++) {
            x.ride(0, 3, 30);
        }
        x.voteFor(3, 2);
        x.voteAgainst(3, 0);
        describes(x, 3, "3o1**:12+7-4");
        Check.due(49, "behind the end", Check.INDEX, () -> x.lineAt(12));
        describes(x, 0, "0o0:12+0-0");
        for (int index : new int[] {-1, 10, 11, 60, Check.LOW, Check.HIGH}) {
            Check.due(49, "index " + index, Check.INDEX, () -> x.lineAt(index));
        }
        Check.due(49, "first", '0', () -> x.lineAt(0));
        Check.due(49, "last", '0', () -> x.lineAt(9));
        for (int bill : new int[] {-1, 4, 8, Check.LOW, Check.HIGH}) {
            Check.due(48, "bill " + bill, Check.INDEX, () -> x.describeBill(bill));
        }
        Check.due(48, "the line stays", "0o0:12+0-0", () -> Check.line(x));
        x.ride(0, 3, 30);
        x.ride(0, 3, 30);
        describes(x, 3, "3f1***:12");
        x.voteAgainst(1, 0);
        x.closeReading(1);
        describes(x, 1, "1f0:12");
        for (int i = 0; i < 3; i++) {
            x.voteFor(2, 2);
            x.closeReading(2);
        }
        describes(x, 2, "2p3:12");
        x.undo();
        Check.due(49, "the line is not undone", "2p3:12", () -> Check.line(x));
        x.save();
        describes(x, 0, "0o0:12+0-0");
        x.restore();
        Check.due(49, "the line is not restored", "0o0:12+0-0", () -> Check.line(x));
    }

    private static void describes(BellParliament x, int bill, String line) {
        Check.due(48, line, line.length(), () -> x.describeBill(bill));
        Check.due(48, line, line, () -> Check.line(x));
        Check.due(49, line, line, () -> Check.line(x));
    }

    private static void longLine() {
        BellParliament x = new BellParliament();
        for (int i = 0; i < 24; i++) {
            x.addMember(i % 4, 7);
            x.enter(i);
        }
        for (int i = 0; i < 8; i++) {
            x.introduce(i, 0, i < 7 ? 63 : 0);
        }
        for (int i = 0; i < 24; i++) {
            x.voteFor(7, i);
        }
        describes(x, 7, "7o0:1+168-0");
        for (int i = 0; i < 9; i++) {
            x.voteAgainst(7, i);
        }
        describes(x, 7, "7o0:1+105-63");
        for (int i = 9; i < 15; i++) {
            x.voteAgainst(7, i);
        }
        describes(x, 7, "7o0:1+63-105");
        describes(x, 6, "6o0:64+0-0");
        x.ride(0, 6, 30);
        x.ride(0, 6, 30);
        describes(x, 6, "6o0*:64+0-0");
        Check.due(52, "eight bills", true, x::isConsistent);
        roundWeights();
    }

    private static void roundWeights() {
        int[][] weights = {{9, 10}, {10, 9}, {99, 11}, {100, 20}, {19, 101}, {1, 100}, {110, 0}};
        for (int[] w : weights) {
            BellParliament x = new BellParliament();
            List<Integer> votersFor = enterWith(x, w[0]);
            List<Integer> votersAgainst = enterWith(x, w[1]);
            x.introduce(0, 20, 29);
            for (int member : votersFor) {
                x.voteFor(0, member);
            }
            for (int member : votersAgainst) {
                x.voteAgainst(0, member);
            }
            describes(x, 0, "0o0:10+" + w[0] + "-" + w[1]);
        }
    }

    private static void meanWeight() {
        BellParliament x = new BellParliament();
        Check.due(50, "nobody", Check.ARITHMETIC, x::meanWeight);
        x.addMember(0, 7);
        Check.due(50, "one", 7.0, x::meanWeight);
        x.addMember(0, 1);
        Check.due(50, "two", 4.0, x::meanWeight);
        x.addMember(0, 2);
        Check.due(50, "three", 10.0 / 3.0, x::meanWeight);
        x.enter(0);
        Check.due(50, "whoever is present", 10.0 / 3.0, x::meanWeight);
        int sum = 10;
        for (int i = 3; i < 24; i++) {
            x.addMember(i % 4, i % 7 + 1);
            sum += i % 7 + 1;
        }
        double mean = (double) sum / 24.0;
        Check.due(50, "all", mean, x::meanWeight);
    }

    private static void shareBits() {
        for (int of = 1; of <= 168; of++) {
            for (int share = 0; share <= of; share++) {
                if (membersFor(share) + membersFor(of - share) <= 24) {
                    shareOf(share, of - share);
                }
            }
        }
        BellParliament x = Check.chamber(4, 3, 7);
        x.introduce(0, 0, 1);
        Check.due(51, "no votes", Check.ARITHMETIC, () -> x.shareBits(0));
        for (int bill : new int[] {-1, 1, 8, Check.LOW, Check.HIGH}) {
            Check.due(51, "bill " + bill, Check.INDEX, () -> x.shareBits(bill));
        }
        x.voteFor(0, 0);
        x.closeReading(0);
        Check.due(51, "votes are gone", Check.ARITHMETIC, () -> x.shareBits(0));
    }

    private static void shareOf(int weightFor, int weightAgainst) {
        BellParliament x = new BellParliament();
        List<Integer> votersFor = enterWith(x, weightFor);
        List<Integer> votersAgainst = enterWith(x, weightAgainst);
        x.introduce(0, 0, 1);
        for (int member : votersFor) {
            x.voteFor(0, member);
        }
        for (int member : votersAgainst) {
            x.voteAgainst(0, member);
        }
        Check.due(27, "weight", weightFor, () -> x.weightFor(0));
        Check.due(29, "weight", weightAgainst, () -> x.weightAgainst(0));
        int bits = Float.floatToIntBits((float) weightFor / (float) (weightFor + weightAgainst));
        Check.due(51, weightFor + " to " + weightAgainst, bits, () -> x.shareBits(0));
    }

    private static int membersFor(int weight) {
        return (weight + 6) / 7;
    }

    /** New members who weigh as much in all as is asked for, as few as can be. */
    private static List<Integer> enterWith(BellParliament x, int weight) {
        List<Integer> members = new ArrayList<>();
        for (int left = weight; left > 0; left -= 7) {
            int member = x.addMember(left % 4, Math.min(left, 7));
            x.enter(member);
            members.add(member);
        }
        return members;
    }

    private static void consistency() {
        BellParliament x = Check.chamber(4, 3, 7, 5, 2);
        Check.due(52, "no bills", true, x::isConsistent);
        x.introduce(0, 0, 63);
        x.introduce(0, 3, 5);
        x.voteFor(0, 0);
        x.voteAgainst(0, 0);
        x.voteAgainst(0, 1);
        x.voteFor(0, 1);
        x.voteFor(1, 4);
        Check.due(52, "votes", true, x::isConsistent);
        x.leave(0);
        Check.due(52, "a voter has left", true, x::isConsistent);
        x.closeReading(0);
        Check.due(52, "fallen", true, x::isConsistent);
    }
}
