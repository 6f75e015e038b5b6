import java.util.NoSuchElementException;

/** The proceedings of a parliament of bicycle bells. */
public final class BellParliament {
    private static final int MEMBER_LIMIT = 24;
    private static final int WARD_LIMIT = 4;
    private static final int WEIGHT_LIMIT = 7;
    private static final int WEIGHT_DIGITS = 3;
    private static final int FIRST_QUORUM = 3;
    private static final int BILL_LIMIT = 8;
    private static final int CLAUSE_LIMIT = 64;
    private static final int READINGS_TO_PASS = 3;
    private static final int PENDING_LIMIT = 4;
    private static final int RIDE_LIMIT = 30;
    private static final int MINUTES_PER_RUST = 60;
    private static final int RUST_TO_FALL = 3;
    private static final int UNDO_LIMIT = 8;
    private static final int TEXT_LIMIT = 60;
    private static final int LINE_LIMIT = 24;
    private static final int UNSET = -1;

    private static final int OPEN = 0;
    private static final int PASSED = 1;
    private static final int FALLEN = 2;

    // What stands against a change; a run asks for it before each command, so that no exception needs catching.
    private static final int NO_FAULT = 0;
    private static final int NO_SUCH_NUMBER = 1;
    private static final int BAD_ARGUMENT = 2;
    private static final int BAD_STATE = 3;
    private static final int NO_SUCH_POSITION = 4;
    private static final int NOT_ALLOWED = 5;

    private final House house = new House();
    private final House beforeRun = new House();
    private final House snapshot = new House();
    private boolean hasSnapshot;
    private final House[] history = new House[UNDO_LIMIT];
    private int nextChange;
    private int changesKept;
    private final CommandText text = new CommandText();
    private int errorAt = UNSET;
    private int failedAt = UNSET;
    private final Line line = new Line();

    public BellParliament() {
        for (int i = 0; i < UNDO_LIMIT; i++) {
            history[i] = new House();
        }
    }

    // ---- members and quorum

    public int addMember(int ward, int weight)
            throws IndexOutOfBoundsException, IllegalArgumentException, IllegalStateException {
        refuse(house.faultOfAdmit(ward, weight));
        remember(house);
        return house.admit(ward, weight);
    }

    public int enter(int member) throws IndexOutOfBoundsException, IllegalStateException {
        refuse(house.faultOfComeIn(member));
        remember(house);
        return house.comeIn(member);
    }

    public int leave(int member) throws IndexOutOfBoundsException, IllegalStateException {
        refuse(house.faultOfGoOut(member));
        remember(house);
        return house.goOut(member);
    }

    public int setQuorum(int members) throws IllegalArgumentException {
        refuse(house.faultOfNewQuorum(members));
        remember(house);
        return house.newQuorum(members);
    }

    public int memberCount() {
        return house.members;
    }

    public int wardOf(int member) throws IndexOutOfBoundsException {
        requireMember(member);
        return house.wards[member];
    }

    public int weightOf(int member) throws IndexOutOfBoundsException {
        requireMember(member);
        return house.weights[member];
    }

    public boolean isPresent(int member) throws IndexOutOfBoundsException {
        requireMember(member);
        return house.isIn(member);
    }

    public int presentMask() {
        return house.present;
    }

    public int quorum() {
        return house.quorumSize;
    }

    public boolean isQuorate() {
        return house.hasQuorum();
    }

    public int wardWeight(int ward) throws IndexOutOfBoundsException {
        if (!isWard(ward)) {
            throw new IndexOutOfBoundsException();
        }
        return house.weightInWard(ward);
    }

    public int strongestWard() {
        int strongest = 0;
        for (int ward = 1; ward < WARD_LIMIT; ward++) {
            if (house.weightInWard(ward) > house.weightInWard(strongest)) {
                strongest = ward;
            }
        }
        return strongest;
    }

    // ---- bills

    public int introduce(int member, int first, int last)
            throws IndexOutOfBoundsException, IllegalArgumentException, IllegalStateException,
            UnsupportedOperationException {
        refuse(house.faultOfBringIn(member, first, last));
        remember(house);
        return house.bringIn(first, last);
    }

    public int billCount() {
        return house.bills;
    }

    public boolean isOpen(int bill) throws IndexOutOfBoundsException {
        requireBill(bill);
        return house.statuses[bill] == OPEN;
    }

    public boolean isPassed(int bill) throws IndexOutOfBoundsException {
        requireBill(bill);
        return house.statuses[bill] == PASSED;
    }

    public int readings(int bill) throws IndexOutOfBoundsException {
        requireBill(bill);
        return house.readingCounts[bill];
    }

    public long clauses(int bill) throws IndexOutOfBoundsException {
        requireBill(bill);
        return house.clauseSets[bill];
    }

    public int clauseCount(int bill) throws IndexOutOfBoundsException {
        requireBill(bill);
        return Long.bitCount(house.clauseSets[bill]);
    }

    public int longestRun(int bill) throws IndexOutOfBoundsException {
        requireBill(bill);
        return runByClauses(house.clauseSets[bill]);
    }

    public int longestRunByShift(int bill) throws IndexOutOfBoundsException {
        requireBill(bill);
        return runByShifts(house.clauseSets[bill]);
    }

    public int billAtRank(int rank) throws NoSuchElementException {
        if (rank < 0 || rank >= house.bills) {
            throw new NoSuchElementException();
        }
        int found = 0;
        for (int bill = 0; bill < house.bills; bill++) {
            if (house.rankOf(bill) == rank) {
                found = bill;
            }
        }
        return found;
    }

    // ---- votes

    public int voteFor(int bill, int member)
            throws IndexOutOfBoundsException, IllegalStateException, UnsupportedOperationException {
        refuse(house.faultOfVote(bill, member));
        remember(house);
        return house.countFor(bill, member);
    }

    public int voteAgainst(int bill, int member)
            throws IndexOutOfBoundsException, IllegalStateException, UnsupportedOperationException {
        refuse(house.faultOfVote(bill, member));
        remember(house);
        return house.countAgainst(bill, member);
    }

    public int weightFor(int bill) throws IndexOutOfBoundsException {
        requireBill(bill);
        return house.weightOfSet(house.votersFor[bill]);
    }

    public int weightForByDigits(int bill) throws IndexOutOfBoundsException {
        requireBill(bill);
        return house.weightOfSetByDigits(house.votersFor[bill]);
    }

    public int weightAgainst(int bill) throws IndexOutOfBoundsException {
        requireBill(bill);
        return house.weightOfSet(house.votersAgainst[bill]);
    }

    public boolean closeReading(int bill)
            throws IndexOutOfBoundsException, IllegalStateException, UnsupportedOperationException {
        refuse(house.faultOfEndReading(bill));
        remember(house);
        return house.endReading(bill);
    }

    // ---- amendments

    public int propose(int bill, int member, int clause)
            throws IndexOutOfBoundsException, IllegalStateException, UnsupportedOperationException {
        refuse(house.faultOfMove(bill, member, clause));
        remember(house);
        return house.move(bill, member, clause);
    }

    public int support(int bill, int position, int member)
            throws IndexOutOfBoundsException, IllegalStateException, NoSuchElementException,
            UnsupportedOperationException {
        refuse(house.faultOfSecond(bill, position, member));
        remember(house);
        return house.second(bill, position, member);
    }

    public boolean decide(int bill)
            throws IndexOutOfBoundsException, IllegalStateException, NoSuchElementException,
            UnsupportedOperationException {
        refuse(house.faultOfDecideFirst(bill));
        remember(house);
        return house.decideFirst(bill);
    }

    public int pendingCount(int bill) throws IndexOutOfBoundsException {
        requireBill(bill);
        return house.pendings[bill];
    }

    public int amendedClause(int bill, int position) throws IndexOutOfBoundsException, NoSuchElementException {
        requirePending(bill, position);
        return house.amendments[bill][position];
    }

    public int supportWeight(int bill, int position) throws IndexOutOfBoundsException, NoSuchElementException {
        requirePending(bill, position);
        return house.weightOfSet(house.supporters[bill][position]);
    }

    // ---- filibusters

    public int ride(int member, int bill, int minutes)
            throws IndexOutOfBoundsException, IllegalArgumentException, IllegalStateException,
            UnsupportedOperationException {
        refuse(house.faultOfHoldUp(member, bill, minutes));
        remember(house);
        return house.holdUp(bill, minutes);
    }

    public int delay(int bill) throws IndexOutOfBoundsException {
        requireBill(bill);
        return house.delays[bill];
    }

    public int rust(int bill) throws IndexOutOfBoundsException {
        requireBill(bill);
        return house.rustOf(bill);
    }

    public int ridesUntilFall(int bill, int minutes)
            throws IndexOutOfBoundsException, IllegalArgumentException, IllegalStateException {
        requireBill(bill);
        if (minutes < 1 || minutes > RIDE_LIMIT) {
            throw new IllegalArgumentException();
        }
        if (house.statuses[bill] != OPEN) {
            throw new IllegalStateException();
        }
        int minutesLeft = RUST_TO_FALL * MINUTES_PER_RUST - house.delays[bill];
        return (minutesLeft + minutes - 1) / minutes;
    }

    // ---- totals

    public int passedCount() {
        return house.billsWith(PASSED);
    }

    public int fallenCount() {
        return house.billsWith(FALLEN);
    }

    public int acceptedCount() {
        return house.accepted;
    }

    // ---- commands

    public int append(char character) throws IllegalArgumentException, IllegalStateException {
        if (character < 32 || character > 126) {
            throw new IllegalArgumentException();
        }
        if (text.isFull()) {
            throw new IllegalStateException();
        }
        return text.put(character);
    }

    public int run() throws IllegalArgumentException, IllegalStateException {
        int commands = text.countCommands();
        if (commands == UNSET) {
            errorAt = text.position;
            text.clear();
            throw new IllegalArgumentException();
        }
        beforeRun.copyFrom(house);
        int failed = carryOutCommands(commands);
        text.clear();
        if (failed != UNSET) {
            house.copyFrom(beforeRun);
            failedAt = failed;
            throw new IllegalStateException();
        }
        remember(beforeRun);
        return commands;
    }

    public int errorPosition() throws NoSuchElementException {
        if (errorAt == UNSET) {
            throw new NoSuchElementException();
        }
        return errorAt;
    }

    public int failedCommand() throws NoSuchElementException {
        if (failedAt == UNSET) {
            throw new NoSuchElementException();
        }
        return failedAt;
    }

    // ---- line, statistics, undo, snapshot

    public int describeBill(int bill) throws IndexOutOfBoundsException {
        requireBill(bill);
        int status = house.statuses[bill];
        int rust = house.rustOf(bill);
        line.clear();
        line.putNumber(bill);
        line.putSign(status == OPEN ? 'o' : status == PASSED ? 'p' : 'f');
        line.putNumber(house.readingCounts[bill]);
        for (int unit = 0; unit < rust; unit++) {
            line.putSign('*');
        }
        line.putSign(':');
        line.putNumber(Long.bitCount(house.clauseSets[bill]));
        if (status == OPEN) {
            line.putSign('+');
            line.putNumber(house.weightOfSet(house.votersFor[bill]));
            line.putSign('-');
            line.putNumber(house.weightOfSet(house.votersAgainst[bill]));
        }
        return line.length;
    }

    public char lineAt(int index) throws IndexOutOfBoundsException {
        if (index < 0 || index >= line.length) {
            throw new IndexOutOfBoundsException();
        }
        return line.signs[index];
    }

    public double meanWeight() throws ArithmeticException {
        if (house.members == 0) {
            throw new ArithmeticException();
        }
        return (double) house.weightOfSet(house.everybody()) / (double) house.members;
    }

    public int shareBits(int bill) throws IndexOutOfBoundsException, ArithmeticException {
        requireBill(bill);
        int weightFor = house.weightOfSet(house.votersFor[bill]);
        int weightOfAll = weightFor + house.weightOfSet(house.votersAgainst[bill]);
        if (weightOfAll == 0) {
            throw new ArithmeticException();
        }
        return bitsOfShare((float) weightFor / (float) weightOfAll);
    }

    public boolean isConsistent() {
        for (int bill = 0; bill < house.bills; bill++) {
            if (!isBillConsistent(bill)) {
                return false;
            }
        }
        int sum = 0;
        for (int ward = 0; ward < WARD_LIMIT; ward++) {
            sum += house.weightInWard(ward);
        }
        return sum == house.weightOfSet(house.present);
    }

    public int undo() throws IllegalStateException {
        if (changesKept == 0) {
            throw new IllegalStateException();
        }
        nextChange = nextChange == 0 ? UNDO_LIMIT - 1 : nextChange - 1;
        changesKept--;
        house.copyFrom(history[nextChange]);
        return changesKept;
    }

    public int save() {
        snapshot.copyFrom(house);
        hasSnapshot = true;
        return house.bills;
    }

    public int restore() throws IllegalStateException {
        if (!hasSnapshot) {
            throw new IllegalStateException();
        }
        house.copyFrom(snapshot);
        changesKept = 0;
        return house.bills;
    }

    // ---- helpers of the face

    private static void refuse(int fault) {
        switch (fault) {
            case NO_SUCH_NUMBER:
                throw new IndexOutOfBoundsException();
            case BAD_ARGUMENT:
                throw new IllegalArgumentException();
            case BAD_STATE:
                throw new IllegalStateException();
            case NO_SUCH_POSITION:
                throw new NoSuchElementException();
            case NOT_ALLOWED:
                throw new UnsupportedOperationException();
            default:
                break;
        }
    }

    private void requireMember(int member) {
        if (!house.hasMember(member)) {
            throw new IndexOutOfBoundsException();
        }
    }

    private void requireBill(int bill) {
        if (!house.hasBill(bill)) {
            throw new IndexOutOfBoundsException();
        }
    }

    private void requirePending(int bill, int position) {
        requireBill(bill);
        if (!house.hasPending(bill, position)) {
            throw new NoSuchElementException();
        }
    }

    /** Keeps the state before a change; the ninth latest one gives way. */
    private void remember(House before) {
        history[nextChange].copyFrom(before);
        nextChange = nextChange == UNDO_LIMIT - 1 ? 0 : nextChange + 1;
        changesKept = Math.min(changesKept + 1, UNDO_LIMIT);
    }

    /** Carries out the commands of a text that countCommands has read; answers the failed one, or UNSET. */
    private int carryOutCommands(int commands) {
        text.rewind();
        for (int command = 0; command < commands; command++) {
            text.readCommand();
            text.readSign(';');
            if (faultOfCommand() != NO_FAULT) {
                return command;
            }
            carryOutCommand();
        }
        return UNSET;
    }

    private int faultOfCommand() {
        int a = text.numbers[0];
        int b = text.numbers[1];
        int c = text.numbers[2];
        switch (text.keyword) {
            case 'm':
                return house.faultOfAdmit(a, b);
            case 'e':
                return house.faultOfComeIn(a);
            case 'l':
                return house.faultOfGoOut(a);
            case 'q':
                return house.faultOfNewQuorum(a);
            case 'b':
                return house.faultOfBringIn(a, b, c);
            case 'y':
            case 'n':
                return house.faultOfVote(a, b);
            case 'c':
                return house.faultOfEndReading(a);
            case 'a':
                return house.faultOfMove(a, b, c);
            case 's':
                return house.faultOfSecond(a, b, c);
            case 'd':
                return house.faultOfDecideFirst(a);
            default:
                return house.faultOfHoldUp(a, b, c);
        }
    }

    private void carryOutCommand() {
        int a = text.numbers[0];
        int b = text.numbers[1];
        int c = text.numbers[2];
        switch (text.keyword) {
            case 'm':
                house.admit(a, b);
                break;
            case 'e':
                house.comeIn(a);
                break;
            case 'l':
                house.goOut(a);
                break;
            case 'q':
                house.newQuorum(a);
                break;
            case 'b':
                house.bringIn(b, c);
                break;
            case 'y':
                house.countFor(a, b);
                break;
            case 'n':
                house.countAgainst(a, b);
                break;
            case 'c':
                house.endReading(a);
                break;
            case 'a':
                house.move(a, b, c);
                break;
            case 's':
                house.second(a, b, c);
                break;
            case 'd':
                house.decideFirst(a);
                break;
            default:
                house.holdUp(b, c);
                break;
        }
    }

    private boolean isBillConsistent(int bill) {
        int votersFor = house.votersFor[bill];
        long clauseSet = house.clauseSets[bill];
        return house.weightOfSet(votersFor) == house.weightOfSetByDigits(votersFor)
                && runByClauses(clauseSet) == runByShifts(clauseSet)
                && (votersFor & house.votersAgainst[bill]) == 0;
    }

    private static boolean isWard(int ward) {
        return ward >= 0 && ward < WARD_LIMIT;
    }

    private static boolean isClause(int clause) {
        return clause >= 0 && clause < CLAUSE_LIMIT;
    }

    private static int runByClauses(long clauseSet) {
        int longest = 0;
        int length = 0;
        for (int clause = 0; clause < CLAUSE_LIMIT; clause++) {
            length = ((clauseSet >>> clause) & 1L) != 0 ? length + 1 : 0;
            longest = Math.max(longest, length);
        }
        return longest;
    }

    /** Each shift leaves the clauses that end a run one longer, until none is left. */
    private static int runByShifts(long clauseSet) {
        long ends = clauseSet;
        int length = 0;
        while (ends != 0 && length < CLAUSE_LIMIT) {
            ends &= ends << 1;
            length++;
        }
        return length;
    }

    /** The bits of a share from 0 to 1, put together by hand: the language keeps Float.floatToIntBits out. */
    private static int bitsOfShare(float share) {
        if (share <= 0.0f) {
            return 0;
        }
        float significand = share;
        int exponent = 127;
        while (significand < 1.0f && exponent > 1) {
            significand = significand * 2.0f;
            exponent--;
        }
        int fraction = (int) (significand * 8388608.0f) - 8388608;
        return (exponent << 23) | fraction;
    }

    /** Everything that changes can change. An action relies on its fault having been asked for before. */
    private static final class House {
        private int members;
        private final int[] wards = new int[MEMBER_LIMIT];
        private final int[] weights = new int[MEMBER_LIMIT];
        private int present;
        private int quorumSize = FIRST_QUORUM;
        private int bills;
        private final int[] statuses = new int[BILL_LIMIT];
        private final int[] readingCounts = new int[BILL_LIMIT];
        private final long[] clauseSets = new long[BILL_LIMIT];
        private final int[] delays = new int[BILL_LIMIT];
        private final int[] votersFor = new int[BILL_LIMIT];
        private final int[] votersAgainst = new int[BILL_LIMIT];
        private final int[] pendings = new int[BILL_LIMIT];
        private final int[][] amendments = new int[BILL_LIMIT][PENDING_LIMIT];
        private final int[][] supporters = new int[BILL_LIMIT][PENDING_LIMIT];
        private int accepted;

        void copyFrom(House other) {
            members = other.members;
            System.arraycopy(other.wards, 0, wards, 0, MEMBER_LIMIT);
            System.arraycopy(other.weights, 0, weights, 0, MEMBER_LIMIT);
            present = other.present;
            quorumSize = other.quorumSize;
            bills = other.bills;
            System.arraycopy(other.statuses, 0, statuses, 0, BILL_LIMIT);
            System.arraycopy(other.readingCounts, 0, readingCounts, 0, BILL_LIMIT);
            System.arraycopy(other.clauseSets, 0, clauseSets, 0, BILL_LIMIT);
            System.arraycopy(other.delays, 0, delays, 0, BILL_LIMIT);
            System.arraycopy(other.votersFor, 0, votersFor, 0, BILL_LIMIT);
            System.arraycopy(other.votersAgainst, 0, votersAgainst, 0, BILL_LIMIT);
            System.arraycopy(other.pendings, 0, pendings, 0, BILL_LIMIT);
            for (int bill = 0; bill < BILL_LIMIT; bill++) {
                System.arraycopy(other.amendments[bill], 0, amendments[bill], 0, PENDING_LIMIT);
                System.arraycopy(other.supporters[bill], 0, supporters[bill], 0, PENDING_LIMIT);
            }
            accepted = other.accepted;
        }

        boolean hasMember(int member) {
            return member >= 0 && member < members;
        }

        boolean hasBill(int bill) {
            return bill >= 0 && bill < bills;
        }

        boolean hasPending(int bill, int position) {
            return position >= 0 && position < pendings[bill];
        }

        boolean isIn(int member) {
            return ((present >>> member) & 1) != 0;
        }

        boolean hasQuorum() {
            return Integer.bitCount(present) >= quorumSize;
        }

        int everybody() {
            return (1 << members) - 1;
        }

        int weightOfSet(int set) {
            int sum = 0;
            for (int member = 0; member < MEMBER_LIMIT; member++) {
                if (((set >>> member) & 1) != 0) {
                    sum += weights[member];
                }
            }
            return sum;
        }

        int weightOfSetByDigits(int set) {
            int sum = 0;
            for (int digit = 0; digit < WEIGHT_DIGITS; digit++) {
                sum += Integer.bitCount(set & membersWithDigit(digit)) << digit;
            }
            return sum;
        }

        private int membersWithDigit(int digit) {
            int set = 0;
            for (int member = 0; member < MEMBER_LIMIT; member++) {
                set |= ((weights[member] >>> digit) & 1) << member;
            }
            return set;
        }

        int weightInWard(int ward) {
            int sum = 0;
            for (int member = 0; member < MEMBER_LIMIT; member++) {
                if (isIn(member) && wards[member] == ward) {
                    sum += weights[member];
                }
            }
            return sum;
        }

        int rustOf(int bill) {
            return delays[bill] / MINUTES_PER_RUST;
        }

        int billsWith(int status) {
            int count = 0;
            for (int bill = 0; bill < bills; bill++) {
                if (statuses[bill] == status) {
                    count++;
                }
            }
            return count;
        }

        int rankOf(int bill) {
            int rank = 0;
            for (int other = 0; other < bills; other++) {
                if (isAhead(other, bill)) {
                    rank++;
                }
            }
            return rank;
        }

        private boolean isAhead(int bill, int other) {
            if (readingCounts[bill] != readingCounts[other]) {
                return readingCounts[bill] > readingCounts[other];
            }
            if (rustOf(bill) != rustOf(other)) {
                return rustOf(bill) < rustOf(other);
            }
            return bill < other;
        }

        int faultOfAdmit(int ward, int weight) {
            if (!isWard(ward)) {
                return NO_SUCH_NUMBER;
            }
            if (weight < 1 || weight > WEIGHT_LIMIT) {
                return BAD_ARGUMENT;
            }
            return members >= MEMBER_LIMIT ? BAD_STATE : NO_FAULT;
        }

        int admit(int ward, int weight) {
            int member = members;
            wards[member] = ward;
            weights[member] = weight;
            members++;
            return member;
        }

        int faultOfComeIn(int member) {
            if (!hasMember(member)) {
                return NO_SUCH_NUMBER;
            }
            return isIn(member) ? BAD_STATE : NO_FAULT;
        }

        int comeIn(int member) {
            present |= 1 << member;
            return Integer.bitCount(present);
        }

        int faultOfGoOut(int member) {
            if (!hasMember(member)) {
                return NO_SUCH_NUMBER;
            }
            return isIn(member) ? NO_FAULT : BAD_STATE;
        }

        int goOut(int member) {
            present &= ~(1 << member);
            return Integer.bitCount(present);
        }

        int faultOfNewQuorum(int size) {
            return size < 1 || size > MEMBER_LIMIT ? BAD_ARGUMENT : NO_FAULT;
        }

        int newQuorum(int size) {
            int previous = quorumSize;
            quorumSize = size;
            return previous;
        }

        int faultOfBringIn(int member, int first, int last) {
            if (!hasMember(member) || !isClause(first) || !isClause(last)) {
                return NO_SUCH_NUMBER;
            }
            if (first > last) {
                return BAD_ARGUMENT;
            }
            if (bills >= BILL_LIMIT) {
                return BAD_STATE;
            }
            return isIn(member) ? NO_FAULT : NOT_ALLOWED;
        }

        /** The rest of the row is zero, and so open: a bill goes only where an earlier state is copied whole. */
        int bringIn(int first, int last) {
            int bill = bills;
            clauseSets[bill] = (-1L << first) & (-1L >>> (CLAUSE_LIMIT - 1 - last));
            bills++;
            return bill;
        }

        int faultOfVote(int bill, int member) {
            if (!hasBill(bill) || !hasMember(member)) {
                return NO_SUCH_NUMBER;
            }
            if (statuses[bill] != OPEN) {
                return BAD_STATE;
            }
            return isIn(member) ? NO_FAULT : NOT_ALLOWED;
        }

        int countFor(int bill, int member) {
            votersFor[bill] |= 1 << member;
            votersAgainst[bill] &= ~(1 << member);
            return weightOfSet(votersFor[bill]);
        }

        int countAgainst(int bill, int member) {
            votersAgainst[bill] |= 1 << member;
            votersFor[bill] &= ~(1 << member);
            return weightOfSet(votersAgainst[bill]);
        }

        int faultOfEndReading(int bill) {
            if (!hasBill(bill)) {
                return NO_SUCH_NUMBER;
            }
            if (statuses[bill] != OPEN) {
                return BAD_STATE;
            }
            return hasQuorum() && pendings[bill] == 0 ? NO_FAULT : NOT_ALLOWED;
        }

        boolean endReading(int bill) {
            boolean success = weightOfSet(votersFor[bill]) > weightOfSet(votersAgainst[bill]);
            votersFor[bill] = 0;
            votersAgainst[bill] = 0;
            if (!success) {
                finish(bill, FALLEN);
                return false;
            }
            readingCounts[bill]++;
            if (readingCounts[bill] >= READINGS_TO_PASS) {
                finish(bill, PASSED);
            }
            return true;
        }

        private void finish(int bill, int status) {
            statuses[bill] = status;
            votersFor[bill] = 0;
            votersAgainst[bill] = 0;
            pendings[bill] = 0;
        }

        int faultOfMove(int bill, int member, int clause) {
            if (!hasBill(bill) || !hasMember(member) || !isClause(clause)) {
                return NO_SUCH_NUMBER;
            }
            if (statuses[bill] != OPEN || pendings[bill] >= PENDING_LIMIT) {
                return BAD_STATE;
            }
            return isIn(member) ? NO_FAULT : NOT_ALLOWED;
        }

        int move(int bill, int member, int clause) {
            int position = pendings[bill];
            amendments[bill][position] = clause;
            supporters[bill][position] = 1 << member;
            pendings[bill]++;
            return position;
        }

        int faultOfSecond(int bill, int position, int member) {
            if (!hasBill(bill) || !hasMember(member)) {
                return NO_SUCH_NUMBER;
            }
            if (statuses[bill] != OPEN) {
                return BAD_STATE;
            }
            if (!hasPending(bill, position)) {
                return NO_SUCH_POSITION;
            }
            return isIn(member) ? NO_FAULT : NOT_ALLOWED;
        }

        int second(int bill, int position, int member) {
            supporters[bill][position] |= 1 << member;
            return weightOfSet(supporters[bill][position]);
        }

        int faultOfDecideFirst(int bill) {
            if (!hasBill(bill)) {
                return NO_SUCH_NUMBER;
            }
            if (statuses[bill] != OPEN) {
                return BAD_STATE;
            }
            if (pendings[bill] == 0) {
                return NO_SUCH_POSITION;
            }
            return hasQuorum() ? NO_FAULT : NOT_ALLOWED;
        }

        boolean decideFirst(int bill) {
            boolean accepts = 2 * weightOfSet(supporters[bill][0]) > weightOfSet(present);
            if (accepts) {
                clauseSets[bill] ^= 1L << amendments[bill][0];
                accepted++;
            }
            pendings[bill]--;
            for (int position = 1; position < PENDING_LIMIT; position++) {
                amendments[bill][position - 1] = amendments[bill][position];
                supporters[bill][position - 1] = supporters[bill][position];
            }
            return accepts;
        }

        int faultOfHoldUp(int member, int bill, int minutes) {
            if (!hasMember(member) || !hasBill(bill)) {
                return NO_SUCH_NUMBER;
            }
            if (minutes < 1 || minutes > RIDE_LIMIT) {
                return BAD_ARGUMENT;
            }
            if (statuses[bill] != OPEN) {
                return BAD_STATE;
            }
            return isIn(member) ? NO_FAULT : NOT_ALLOWED;
        }

        int holdUp(int bill, int minutes) {
            delays[bill] += minutes;
            if (rustOf(bill) >= RUST_TO_FALL) {
                finish(bill, FALLEN);
            }
            return rustOf(bill);
        }
    }

    /** The buffer of commands and the reader that walks through it. */
    private static final class CommandText {
        private static final char NOTHING = 0;
        private static final char DIGIT = 'D';
        private static final char NUMBER = 'N';

        private final char[] signs = new char[TEXT_LIMIT];
        private int length;
        private int position;
        private char keyword;
        private final int[] numbers = new int[3];
        private int numbersRead;

        boolean isFull() {
            return length >= TEXT_LIMIT;
        }

        int put(char sign) {
            signs[length] = sign;
            length++;
            return length;
        }

        void clear() {
            length = 0;
        }

        void rewind() {
            position = 0;
        }

        /** Answers UNSET if this is no command text; the position is then where no command text goes on. */
        int countCommands() {
            rewind();
            for (int commands = 1; commands <= TEXT_LIMIT; commands++) {
                if (!readCommand()) {
                    return UNSET;
                }
                if (position == length) {
                    return commands;
                }
                if (!readSign(';')) {
                    return UNSET;
                }
            }
            return UNSET;
        }

        boolean readCommand() {
            keyword = nextSign();
            numbersRead = 0;
            String form = formOf(keyword);
            for (int i = 0; i < form.length(); i++) {
                if (!readPart(form.charAt(i))) {
                    return false;
                }
            }
            return !form.isEmpty();
        }

        boolean readSign(char sign) {
            if (nextSign() != sign) {
                return false;
            }
            position++;
            return true;
        }

        /** The first character tells the commands apart. Capitals stand for digits and numbers. */
        private static String formOf(char first) {
            switch (first) {
                case 'm':
                    return "member DD";
                case 'e':
                    return "enter N";
                case 'l':
                    return "leave N";
                case 'q':
                    return "quorum N";
                case 'b':
                    return "bill N N-N";
                case 'y':
                    return "yes D N";
                case 'n':
                    return "no D N";
                case 'c':
                    return "close D";
                case 'a':
                    return "amend D N N";
                case 's':
                    return "support DD N";
                case 'd':
                    return "decide D";
                case 'r':
                    return "ride N D N";
                default:
                    return "";
            }
        }

        private boolean readPart(char part) {
            if (part != DIGIT && part != NUMBER) {
                return readSign(part);
            }
            if (!isDigit(nextSign())) {
                return false;
            }
            int number = readDigit();
            if (part == NUMBER && isDigit(nextSign())) {
                number = number * 10 + readDigit();
            }
            if (numbersRead < numbers.length) {
                numbers[numbersRead] = number;
                numbersRead++;
            }
            return true;
        }

        private int readDigit() {
            int digit = nextSign() - '0';
            position++;
            return digit;
        }

        private char nextSign() {
            return position < length ? signs[position] : NOTHING;
        }

        private static boolean isDigit(char sign) {
            return sign >= '0' && sign <= '9';
        }
    }

    /** The line that describes a bill; the longest one has 17 characters. */
    private static final class Line {
        private final char[] signs = new char[LINE_LIMIT];
        private int length;

        void clear() {
            length = 0;
        }

        void putSign(char sign) {
            if (length < LINE_LIMIT) {
                signs[length] = sign;
                length++;
            }
        }

        /** Numbers here have at most three digits: the weight of all members is at most 168. */
        void putNumber(int number) {
            if (number >= 100) {
                putSign((char) ('0' + number / 100));
            }
            if (number >= 10) {
                putSign((char) ('0' + number / 10 % 10));
            }
            putSign((char) ('0' + number % 10));
        }
    }
}
