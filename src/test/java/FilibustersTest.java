/** Promises 37 to 43: filibusters and totals. */
public final class FilibustersTest {
    public static void main(String[] args) {
        rides();
        wrongRides();
        ridesUntilFall();
        noSuchBill();
        totals();
        totalsOfEight();
        Check.end();
    }

    private static void rides() {
        BellParliament x = Check.chamber(1);
        x.introduce(0, 0, 9);
        x.introduce(0, 0, 9);
        Check.due(38, "at first", 0, () -> x.delay(0));
        Check.due(39, "at first", 0, () -> x.rust(0));
        int[] minutes = {30, 29, 1, 30, 29, 1, 30, 29};
        int[] rusts = {0, 0, 1, 1, 1, 2, 2, 2};
        int sum = 0;
        for (int i = 0; i < minutes.length; i++) {
            int step = i;
            sum += minutes[i];
            int delay = sum;
            Check.due(37, "ride " + i, rusts[i], () -> x.ride(0, 0, minutes[step]));
            Check.due(38, "ride " + i, delay, () -> x.delay(0));
            Check.due(39, "ride " + i, rusts[i], () -> x.rust(0));
            Check.due(37, "open at 179", true, () -> x.isOpen(0));
        }
        x.voteFor(0, 0);
        x.propose(0, 0, 3);
        Check.due(37, "the last ride", 3, () -> x.ride(0, 0, 30));
        Check.due(37, "fallen", false, () -> x.isOpen(0));
        Check.due(37, "not passed", false, () -> x.isPassed(0));
        Check.due(37, "no votes", 0, () -> x.weightFor(0));
        Check.due(37, "no amendments", 0, () -> x.pendingCount(0));
        Check.due(38, "in the end", 209, () -> x.delay(0));
        Check.due(39, "in the end", 3, () -> x.rust(0));
        Check.due(38, "the other bill", 0, () -> x.delay(1));
        for (int i = 0; i < 5; i++) {
            x.ride(0, 1, 30);
        }
        Check.due(37, "just 180", 3, () -> x.ride(0, 1, 30));
        Check.due(37, "fallen at 180", false, () -> x.isOpen(1));
    }

    private static void wrongRides() {
        BellParliament x = Check.chamber(1, 1);
        x.leave(1);
        x.setQuorum(1);
        x.introduce(0, 0, 9);
        x.introduce(0, 0, 9);
        x.closeReading(1);
        for (int number : new int[] {-1, 2, 24, Check.LOW, Check.HIGH}) {
            Check.due(37, "member " + number, Check.INDEX, () -> x.ride(number, 0, 1));
            Check.due(37, "bill " + number, Check.INDEX, () -> x.ride(0, number, 1));
            Check.due(37, "bill before minutes", Check.INDEX, () -> x.ride(0, number, 0));
        }
        for (int minutes : new int[] {0, 31, -1, Check.LOW, Check.HIGH}) {
            Check.due(37, "minutes " + minutes, Check.ARGUMENT, () -> x.ride(0, 0, minutes));
            Check.due(37, "minutes before fallen", Check.ARGUMENT, () -> x.ride(0, 1, minutes));
            Check.due(37, "minutes before out", Check.ARGUMENT, () -> x.ride(1, 0, minutes));
        }
        Check.due(37, "fallen", Check.STATE, () -> x.ride(0, 1, 1));
        Check.due(37, "fallen before out", Check.STATE, () -> x.ride(1, 1, 1));
        Check.due(37, "out", Check.UNSUPPORTED, () -> x.ride(1, 0, 1));
        Check.due(38, "nothing counted", 0, () -> x.delay(0));
    }

    private static void ridesUntilFall() {
        BellParliament x = Check.chamber(1, 1, 1);
        x.introduce(0, 0, 9);
        x.introduce(0, 0, 9);
        x.closeReading(1);
        for (int delay = 0; delay < 180; delay += 20) {
            int left = 180 - delay;
            for (int m = 1; m <= 30; m++) {
                int minutes = m;
                int rides = 0;
                for (int sum = 0; sum < left; sum += minutes) {
                    rides++;
                }
                Check.due(40, left + " by " + m, rides, () -> x.ridesUntilFall(0, minutes));
            }
            if (delay < 160) {
                x.ride(0, 0, 20);
            }
        }
        x.ride(0, 0, 19);
        Check.due(40, "1 by 1", 1, () -> x.ridesUntilFall(0, 1));
        Check.due(40, "1 by 30", 1, () -> x.ridesUntilFall(0, 30));
        Check.due(40, "asking delays nothing", 179, () -> x.delay(0));
        for (int minutes : new int[] {0, 31, -1, Check.LOW, Check.HIGH}) {
            Check.due(40, "minutes " + minutes, Check.ARGUMENT, () -> x.ridesUntilFall(0, minutes));
            Check.due(40, "minutes before fallen", Check.ARGUMENT, () -> x.ridesUntilFall(1, minutes));
            Check.due(40, "bill before minutes", Check.INDEX, () -> x.ridesUntilFall(2, minutes));
        }
        Check.due(40, "fallen", Check.STATE, () -> x.ridesUntilFall(1, 1));
    }

    private static void noSuchBill() {
        BellParliament x = Check.chamber(1);
        x.introduce(0, 0, 9);
        for (int bill : new int[] {-1, 1, 8, Check.LOW, Check.HIGH}) {
            Check.due(38, "bill " + bill, Check.INDEX, () -> x.delay(bill));
            Check.due(39, "bill " + bill, Check.INDEX, () -> x.rust(bill));
            Check.due(40, "bill " + bill, Check.INDEX, () -> x.ridesUntilFall(bill, 1));
        }
    }

    private static void totals() {
        BellParliament x = Check.chamber(4, 3, 1);
        for (int i = 0; i < 5; i++) {
            x.introduce(0, 0, i);
        }
        Check.due(41, "none", 0, x::passedCount);
        Check.due(42, "none", 0, x::fallenCount);
        Check.due(43, "none", 0, x::acceptedCount);
        for (int bill = 0; bill < 2; bill++) {
            for (int reading = 0; reading < 3; reading++) {
                Check.due(41, "not yet", bill, x::passedCount);
                x.voteFor(bill, 0);
                x.closeReading(bill);
            }
        }
        Check.due(41, "two", 2, x::passedCount);
        Check.due(42, "none yet", 0, x::fallenCount);
        x.closeReading(2);
        Check.due(42, "by a vote", 1, x::fallenCount);
        for (int i = 0; i < 6; i++) {
            x.ride(0, 3, 30);
        }
        Check.due(42, "by rust", 2, x::fallenCount);
        Check.due(41, "still two", 2, x::passedCount);
        x.propose(4, 0, 1);
        Check.due(43, "pending", 0, x::acceptedCount);
        x.decide(4);
        Check.due(43, "refused", 0, x::acceptedCount);
        for (int i = 1; i <= 3; i++) {
            int count = i;
            x.propose(4, 0, 1);
            x.support(4, 0, 1);
            x.decide(4);
            Check.due(43, "accepted", count, x::acceptedCount);
        }
        x.closeReading(4);
        Check.due(43, "stays when the bill falls", 3, x::acceptedCount);
    }

    private static void totalsOfEight() {
        BellParliament x = Check.chamber(4, 3, 1);
        for (int bill = 0; bill < 8; bill++) {
            x.introduce(0, 0, bill);
        }
        Check.due(41, "eight open bills", 0, x::passedCount);
        Check.due(42, "eight open bills", 0, x::fallenCount);
        for (int bill = 0; bill < 8; bill++) {
            x.closeReading(bill);
        }
        Check.due(41, "eight fallen bills", 0, x::passedCount);
        Check.due(42, "eight fallen bills", 8, x::fallenCount);
    }
}
