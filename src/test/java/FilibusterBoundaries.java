/** Boundaries of promises 37 to 43. */
final class FilibusterBoundaries {
    private static final String NO_BILL = "Throws `IndexOutOfBoundsException` if there is no such bill";
    private static final String MINUTES =
            "Throws `IllegalArgumentException` if the number of minutes is not from 1 to 30";
    private static final String NOT_OPEN = "Throws `IllegalStateException` if the bill is not open";

    private FilibusterBoundaries() {
    }

    static void test() {
        ride();
        rideRefused();
        delayAndRust();
        ridesUntilFall();
        totals();
    }

    /** Bill 0 has the delay given. */
    private static BellParliament delayed(int minutes) {
        BellParliament x = Boundaries.bills(1);
        while (x.delay(0) < minutes) {
            x.ride(0, 0, Math.min(30, minutes - x.delay(0)));
        }
        return x;
    }

    private static void ride() {
        Boundaries.says(37, "Returns the rust of the bill after the call.", () -> {
            int[] delays = {0, 29, 30, 58, 59, 60, 90, 118, 119, 120, 150, 178, 179};
            for (int delay : delays) {
                Boundaries.due(delay + " and 1", (delay + 1) / 60, () -> delayed(delay).ride(0, 0, 1));
                Boundaries.due(delay + " and 30", (delay + 30) / 60, () -> delayed(delay).ride(0, 0, 30));
            }
        });
    }

    private static void rideRefused() {
        Boundaries.says(37, "Throws `IndexOutOfBoundsException` if there is no such bill or member", () -> {
            Boundaries.refused("nothing there", Check.INDEX, BellParliament::new, x -> x.ride(0, 0, 1));
            Boundaries.refusedNumbers("bill", Check.INDEX, Boundaries::busy, Boundaries.outside(3),
                    (x, bill) -> x.ride(0, bill, 1));
            Boundaries.refusedNumbers("of 8", Check.INDEX, () -> Boundaries.bills(8), Boundaries.outside(8),
                    (x, bill) -> x.ride(0, bill, 1));
            Boundaries.refusedNumbers("member", Check.INDEX, Boundaries::busy, Boundaries.outside(4),
                    (x, member) -> x.ride(member, 0, 1));
            Boundaries.due("member 1 and bill 7", 30, () -> {
                BellParliament x = Boundaries.bills(8);
                x.ride(1, 7, 30);
                return x.delay(7);
            });
        });
        Boundaries.says(37, MINUTES, () -> {
            Boundaries.refusedNumbers("minutes", Check.ARGUMENT, Boundaries::busy, Boundaries.outside(1, 30),
                    (x, minutes) -> x.ride(0, 0, minutes));
            Boundaries.due("1", 62, () -> delayAfter(1));
            Boundaries.due("30", 91, () -> delayAfter(30));
        });
        Boundaries.says(37, NOT_OPEN, () -> {
            Boundaries.refused("fallen", Check.STATE, Boundaries::busy, x -> x.ride(0, 1, 1));
            Boundaries.refused("passed", Check.STATE, Boundaries::busy, x -> x.ride(0, 2, 1));
            Boundaries.refused("rusted", Check.STATE, () -> delayed(180), x -> x.ride(0, 0, 1));
        });
        Boundaries.says(37, "Throws `UnsupportedOperationException` if the member is not present", () -> {
            Boundaries.refused("out", Check.UNSUPPORTED, Boundaries::busy, x -> x.ride(3, 0, 1));
            Boundaries.due("without a quorum", 0, () -> Boundaries.bills(1).ride(0, 0, 1));
        });
    }

    private static int delayAfter(int minutes) {
        BellParliament x = Boundaries.busy();
        x.ride(0, 0, minutes);
        return x.delay(0);
    }

    private static void delayAndRust() {
        Boundaries.says(38, "Returns the delay of a bill.", () -> {
            Boundaries.due("at first", 0, () -> delayed(0).delay(0));
            BellParliament x = delayed(179);
            x.introduce(0, 0, 0);
            Boundaries.due("still open", 179, () -> x.delay(0));
            Boundaries.due("of another bill", 0, () -> x.delay(1));
            x.ride(0, 0, 30);
            Boundaries.due("the longest of all", 209, () -> x.delay(0));
            BellParliament y = delayed(119);
            y.setQuorum(1);
            for (int reading = 1; reading <= 3; reading++) {
                y.voteFor(0, 0);
                y.closeReading(0);
                Boundaries.due("after reading " + reading, 119, () -> y.delay(0));
            }
        });
        Boundaries.says(39, "Returns the rust of a bill.", () -> {
            int[] delays = {0, 59, 60, 119, 120, 179, 180};
            for (int delay : delays) {
                Boundaries.due("at " + delay, delay / 60, () -> delayed(delay).rust(0));
            }
            Boundaries.due("of a passed one", 0, () -> Boundaries.busy().rust(2));
        });
        Boundaries.says(38, NO_BILL, () -> BillBoundaries.noBill(BellParliament::delay, 0));
        Boundaries.says(39, NO_BILL, () -> BillBoundaries.noBill(BellParliament::rust, 0));
    }

    private static void ridesUntilFall() {
        Boundaries.says(40, "Returns how many rides of a number of minutes would let an open bill fall.", () -> {
            for (int minutes = 1; minutes <= 30; minutes++) {
                int each = minutes;
                for (int delay : new int[] {0, 1, 29, 30, 59, 60, 119, 120, 149, 150, 151, 178, 179}) {
                    BellParliament x = delayed(delay);
                    int foretold = x.ridesUntilFall(0, minutes);
                    Boundaries.due(delay + " and then by " + minutes, foretold, () -> ridesThatLetFall(x, each));
                }
            }
            Boundaries.due("all by 1", 180, () -> delayed(0).ridesUntilFall(0, 1));
            Boundaries.due("all by 30", 6, () -> delayed(0).ridesUntilFall(0, 30));
            Boundaries.due("all by 29", 7, () -> delayed(0).ridesUntilFall(0, 29));
            Boundaries.due("the last by 1", 1, () -> delayed(179).ridesUntilFall(0, 1));
            Boundaries.due("the last by 30", 1, () -> delayed(179).ridesUntilFall(0, 30));
            Boundaries.due("just two", 2, () -> delayed(120).ridesUntilFall(0, 30));
            Boundaries.due("just one more than two", 3, () -> delayed(119).ridesUntilFall(0, 30));
        });
        Boundaries.says(40, NO_BILL, () -> BillBoundaries.noBill((x, bill) -> x.ridesUntilFall(bill, 30), 6));
        Boundaries.says(40, MINUTES, () -> {
            Boundaries.refusedNumbers("minutes", Check.ARGUMENT, Boundaries::busy, Boundaries.outside(1, 30),
                    (x, minutes) -> x.ridesUntilFall(0, minutes));
            Boundaries.due("1", 119, () -> Boundaries.busy().ridesUntilFall(0, 1));
            Boundaries.due("30", 4, () -> Boundaries.busy().ridesUntilFall(0, 30));
        });
        Boundaries.says(40, NOT_OPEN, () -> {
            Boundaries.refused("fallen", Check.STATE, Boundaries::busy, x -> x.ridesUntilFall(1, 1));
            Boundaries.refused("passed", Check.STATE, Boundaries::busy, x -> x.ridesUntilFall(2, 1));
            Boundaries.refused("rusted", Check.STATE, () -> delayed(180), x -> x.ridesUntilFall(0, 1));
        });
    }

    private static int ridesThatLetFall(BellParliament x, int minutes) {
        int rides = 0;
        while (x.isOpen(0)) {
            x.ride(0, 0, minutes);
            rides++;
        }
        return rides;
    }

    private static void totals() {
        Boundaries.says(41, "Returns the number of passed bills.", () -> {
            BellParliament x = Check.chamber(1);
            x.setQuorum(1);
            Boundaries.due("none", 0, x::passedCount);
            for (int i = 0; i < 8; i++) {
                int bill = i;
                x.introduce(0, 0, 0);
                for (int reading = 0; reading < 3; reading++) {
                    Boundaries.due("after " + reading + " of bill " + i, bill, x::passedCount);
                    x.voteFor(bill, 0);
                    x.closeReading(bill);
                }
            }
            Boundaries.due("all", 8, x::passedCount);
            Boundaries.due("none fallen", 0, x::fallenCount);
        });
        Boundaries.says(42, "Returns the number of fallen bills.", () -> {
            BellParliament x = Boundaries.bills(8);
            x.setQuorum(1);
            for (int i = 0; i < 8; i++) {
                int bill = i;
                Boundaries.due("before bill " + i, bill, x::fallenCount);
                if (i % 2 == 0) {
                    x.closeReading(bill);
                } else {
                    for (int ride = 0; ride < 6; ride++) {
                        x.ride(0, bill, 30);
                    }
                }
            }
            Boundaries.due("all", 8, x::fallenCount);
            Boundaries.due("none passed", 0, x::passedCount);
        });
        Boundaries.says(43, "Returns the number of amendments accepted so far.", () -> {
            BellParliament x = Check.chamber(4, 3, 1);
            x.introduce(0, 0, 0);
            Boundaries.due("none", 0, x::acceptedCount);
            for (int i = 0; i < 100; i++) {
                int before = i / 2;
                x.propose(0, 0, i % 64);
                Boundaries.due("while one is pending", before, x::acceptedCount);
                if (i % 2 == 1) {
                    x.support(0, 0, 1);
                }
                x.decide(0);
            }
            Boundaries.due("every second one", 50, x::acceptedCount);
            x.closeReading(0);
            Boundaries.due("when the bill has fallen", 50, x::acceptedCount);
        });
    }
}
