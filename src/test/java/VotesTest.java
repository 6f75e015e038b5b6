/** Promises 25 to 30: votes and readings. */
public final class VotesTest {
    public static void main(String[] args) {
        voting();
        wrongVotes();
        weights();
        eachWeight();
        readings();
        wrongReadings();
        Check.end();
    }

    private static void voting() {
        BellParliament x = Check.chamber(5, 3, 7);
        x.introduce(0, 0, 9);
        x.introduce(0, 0, 9);
        Check.due(25, "first", 5, () -> x.voteFor(0, 0));
        Check.due(25, "again", 5, () -> x.voteFor(0, 0));
        Check.due(25, "second", 12, () -> x.voteFor(0, 2));
        Check.due(26, "replaces", 5, () -> x.voteAgainst(0, 0));
        Check.due(27, "replaced", 7, () -> x.weightFor(0));
        Check.due(26, "again", 5, () -> x.voteAgainst(0, 0));
        Check.due(26, "second", 8, () -> x.voteAgainst(0, 1));
        Check.due(25, "replaces", 10, () -> x.voteFor(0, 1));
        Check.due(29, "replaced", 5, () -> x.weightAgainst(0));
        Check.due(27, "the other bill", 0, () -> x.weightFor(1));
        Check.due(29, "the other bill", 0, () -> x.weightAgainst(1));
    }

    private static void wrongVotes() {
        BellParliament x = Check.chamber(5, 3, 7);
        x.leave(1);
        x.setQuorum(1);
        x.introduce(0, 0, 9);
        x.introduce(0, 0, 9);
        x.closeReading(1);
        for (int number : new int[] {-1, 3, 24, 32, Check.LOW, Check.HIGH}) {
            Check.due(25, "bill " + number, Check.INDEX, () -> x.voteFor(number, 0));
            Check.due(25, "member " + number, Check.INDEX, () -> x.voteFor(0, number));
            Check.due(25, "member before fallen", Check.INDEX, () -> x.voteFor(1, number));
            Check.due(26, "bill " + number, Check.INDEX, () -> x.voteAgainst(number, 0));
            Check.due(26, "member " + number, Check.INDEX, () -> x.voteAgainst(0, number));
            Check.due(26, "member before fallen", Check.INDEX, () -> x.voteAgainst(1, number));
        }
        Check.due(25, "not yet a bill", Check.INDEX, () -> x.voteFor(2, 0));
        Check.due(26, "not yet a bill", Check.INDEX, () -> x.voteAgainst(2, 0));
        Check.due(25, "fallen", Check.STATE, () -> x.voteFor(1, 0));
        Check.due(25, "fallen before out", Check.STATE, () -> x.voteFor(1, 1));
        Check.due(25, "out", Check.UNSUPPORTED, () -> x.voteFor(0, 1));
        Check.due(26, "fallen", Check.STATE, () -> x.voteAgainst(1, 0));
        Check.due(26, "fallen before out", Check.STATE, () -> x.voteAgainst(1, 1));
        Check.due(26, "out", Check.UNSUPPORTED, () -> x.voteAgainst(0, 1));
        Check.due(27, "nothing counted", 0, () -> x.weightFor(0));
        Check.due(29, "nothing counted", 0, () -> x.weightAgainst(0));
    }

    private static void weights() {
        int[] weights = new int[24];
        for (int i = 0; i < 24; i++) {
            weights[i] = 7 - i % 7;
        }
        BellParliament x = Check.chamber(weights);
        x.introduce(0, 0, 9);
        int sum = 0;
        for (int i = 0; i < 24; i++) {
            int member = i;
            sum += weights[i];
            int want = sum;
            Check.due(25, "member " + i, want, () -> x.voteFor(0, member));
            Check.due(27, "member " + i, want, () -> x.weightFor(0));
            Check.due(28, "member " + i, want, () -> x.weightForByDigits(0));
        }
        int against = 0;
        for (int i = 23; i >= 0; i -= 2) {
            int member = i;
            against += weights[i];
            int want = against;
            int rest = sum - against;
            Check.due(26, "member " + i, want, () -> x.voteAgainst(0, member));
            Check.due(29, "member " + i, want, () -> x.weightAgainst(0));
            Check.due(27, "less member " + i, rest, () -> x.weightFor(0));
            Check.due(28, "less member " + i, rest, () -> x.weightForByDigits(0));
        }
        for (int bill : new int[] {-1, 1, 8, Check.LOW, Check.HIGH}) {
            Check.due(27, "bill " + bill, Check.INDEX, () -> x.weightFor(bill));
            Check.due(28, "bill " + bill, Check.INDEX, () -> x.weightForByDigits(bill));
            Check.due(29, "bill " + bill, Check.INDEX, () -> x.weightAgainst(bill));
        }
    }

    private static void eachWeight() {
        for (int weight = 1; weight <= 7; weight++) {
            int want = weight;
            BellParliament x = Check.chamber(weight, 8 - weight);
            x.introduce(0, 0, 9);
            x.voteFor(0, 0);
            Check.due(27, "one voter", want, () -> x.weightFor(0));
            Check.due(28, "one voter", want, () -> x.weightForByDigits(0));
            x.voteAgainst(0, 0);
            x.voteFor(0, 1);
            Check.due(28, "the other voter", 8 - want, () -> x.weightForByDigits(0));
        }
    }

    private static void readings() {
        BellParliament x = Check.chamber(4, 3, 1, 5);
        for (int i = 0; i < 4; i++) {
            x.introduce(0, 0, i);
        }
        x.voteFor(0, 3);
        x.voteAgainst(0, 0);
        x.voteFor(1, 0);
        Check.due(30, "more for", true, () -> x.closeReading(0));
        Check.due(30, "votes for are gone", 0, () -> x.weightFor(0));
        Check.due(30, "votes against are gone", 0, () -> x.weightAgainst(0));
        Check.due(30, "votes on others stay", 4, () -> x.weightFor(1));
        Check.due(30, "one reading", 1, () -> x.readings(0));
        x.voteAgainst(1, 1);
        x.voteAgainst(1, 2);
        Check.due(30, "even", false, () -> x.closeReading(1));
        Check.due(30, "even: fallen", false, () -> x.isOpen(1));
        Check.due(30, "even: no reading", 0, () -> x.readings(1));
        Check.due(30, "even: no votes for", 0, () -> x.weightFor(1));
        Check.due(30, "even: no votes against", 0, () -> x.weightAgainst(1));
        Check.due(30, "no votes at all", false, () -> x.closeReading(2));
        Check.due(30, "no votes at all: fallen", false, () -> x.isOpen(2));
        x.voteAgainst(3, 0);
        Check.due(30, "against", false, () -> x.closeReading(3));
        for (int i = 0; i < 2; i++) {
            Check.due(30, "still open", true, () -> x.isOpen(0));
            x.voteFor(0, 2);
            Check.due(30, "success", true, () -> x.closeReading(0));
        }
        Check.due(30, "passed", true, () -> x.isPassed(0));
        Check.due(30, "passed without votes", 0, () -> x.weightFor(0));
    }

    private static void wrongReadings() {
        BellParliament x = Check.chamber(4, 3, 1);
        x.introduce(0, 0, 9);
        x.introduce(0, 0, 9);
        for (int bill : new int[] {-1, 2, 8, Check.LOW, Check.HIGH}) {
            Check.due(30, "bill " + bill, Check.INDEX, () -> x.closeReading(bill));
        }
        x.voteFor(0, 0);
        x.propose(0, 0, 3);
        Check.due(30, "pending", Check.UNSUPPORTED, () -> x.closeReading(0));
        x.decide(0);
        x.closeReading(1);
        x.leave(2);
        Check.due(30, "no quorum", Check.UNSUPPORTED, () -> x.closeReading(0));
        Check.due(30, "the vote stays", 4, () -> x.weightFor(0));
        Check.due(30, "fallen before quorum", Check.STATE, () -> x.closeReading(1));
        x.setQuorum(2);
        Check.due(30, "quorum again", true, () -> x.closeReading(0));
        Check.due(30, "fallen", Check.STATE, () -> x.closeReading(1));
    }
}
