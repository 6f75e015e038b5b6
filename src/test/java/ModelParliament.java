import java.util.ArrayDeque;
import java.util.ArrayList;
import java.util.Comparator;
import java.util.Deque;
import java.util.List;
import java.util.NoSuchElementException;
import java.util.TreeMap;
import java.util.TreeSet;
import java.util.regex.Matcher;
import java.util.regex.Pattern;

/**
 * The document written a second time, as slowly and as plainly as can be, with the Java library: for
 * ModelTest to compare with. It shares no code and no way of holding its state with BellParliament.
 */
public final class ModelParliament {
    private static final String N = "[0-9][0-9]?";
    private static final String D = "[0-9]";
    private static final String COMMAND = "(?:member " + D + D + "|enter " + N + "|leave " + N + "|quorum " + N
            + "|bill " + N + " " + N + "-" + N + "|yes " + D + " " + N + "|no " + D + " " + N + "|close " + D
            + "|amend " + D + " " + N + " " + N + "|support " + D + D + " " + N + "|decide " + D
            + "|ride " + N + " " + D + " " + N + ")";
    private static final Pattern TEXT = Pattern.compile(COMMAND + "(?:;" + COMMAND + ")*");

    private static final class Member {
        int ward;
        int weight;
        boolean present;
    }

    private static final class Amendment {
        int clause;
        TreeSet<Integer> supporters = new TreeSet<>();
    }

    private static final class Bill {
        String status = "open";
        int readings;
        int delay;
        TreeSet<Integer> clauses = new TreeSet<>();
        TreeMap<Integer, Boolean> votes = new TreeMap<>();
        List<Amendment> pending = new ArrayList<>();
    }

    private static final class State {
        List<Member> members = new ArrayList<>();
        List<Bill> bills = new ArrayList<>();
        int quorum = 3;
        int accepted;

        State copy() {
            State s = new State();
            s.quorum = quorum;
            s.accepted = accepted;
            for (Member m : members) {
                Member c = new Member();
                c.ward = m.ward;
                c.weight = m.weight;
                c.present = m.present;
                s.members.add(c);
            }
            for (Bill b : bills) {
                Bill c = new Bill();
                c.status = b.status;
                c.readings = b.readings;
                c.delay = b.delay;
                c.clauses.addAll(b.clauses);
                c.votes.putAll(b.votes);
                for (Amendment a : b.pending) {
                    Amendment d = new Amendment();
                    d.clause = a.clause;
                    d.supporters.addAll(a.supporters);
                    c.pending.add(d);
                }
                s.bills.add(c);
            }
            return s;
        }
    }

    private State state = new State();
    private State saved;
    private final Deque<State> past = new ArrayDeque<>();
    private boolean running;
    private String text = "";
    private String line = "";
    private Integer errorPosition;
    private Integer failedCommand;

    private void change() {
        if (!running) {
            push(state.copy());
        }
    }

    private void push(State before) {
        past.addLast(before);
        if (past.size() > 8) {
            past.removeFirst();
        }
    }

    private static void index(boolean ok) {
        if (!ok) {
            throw new IndexOutOfBoundsException();
        }
    }

    private static void argument(boolean ok) {
        if (!ok) {
            throw new IllegalArgumentException();
        }
    }

    private static void state(boolean ok) {
        if (!ok) {
            throw new IllegalStateException();
        }
    }

    private static void element(boolean ok) {
        if (!ok) {
            throw new NoSuchElementException();
        }
    }

    private static void allowed(boolean ok) {
        if (!ok) {
            throw new UnsupportedOperationException();
        }
    }

    private Member member(int member) {
        index(0 <= member && member < state.members.size());
        return state.members.get(member);
    }

    private Bill bill(int bill) {
        index(0 <= bill && bill < state.bills.size());
        return state.bills.get(bill);
    }

    private int present() {
        return (int) state.members.stream().filter(m -> m.present).count();
    }

    private int weight(Iterable<Integer> members) {
        int sum = 0;
        for (int m : members) {
            sum += state.members.get(m).weight;
        }
        return sum;
    }

    private int weight(Bill bill, boolean inFavour) {
        List<Integer> voters = new ArrayList<>();
        bill.votes.forEach((m, v) -> {
            if (v == inFavour) {
                voters.add(m);
            }
        });
        return weight(voters);
    }

    public int addMember(int ward, int weight) {
        index(0 <= ward && ward <= 3);
        argument(1 <= weight && weight <= 7);
        state(state.members.size() < 24);
        change();
        Member m = new Member();
        m.ward = ward;
        m.weight = weight;
        state.members.add(m);
        return state.members.size() - 1;
    }

    public int enter(int member) {
        state(!member(member).present);
        change();
        member(member).present = true;
        return present();
    }

    public int leave(int member) {
        state(member(member).present);
        change();
        member(member).present = false;
        return present();
    }

    public int setQuorum(int members) {
        argument(1 <= members && members <= 24);
        change();
        int before = state.quorum;
        state.quorum = members;
        return before;
    }

    public int memberCount() {
        return state.members.size();
    }

    public int wardOf(int member) {
        return member(member).ward;
    }

    public int weightOf(int member) {
        return member(member).weight;
    }

    public boolean isPresent(int member) {
        return member(member).present;
    }

    public int presentMask() {
        int mask = 0;
        for (int m = 0; m < state.members.size(); m++) {
            if (member(m).present) {
                mask += Math.pow(2, m);
            }
        }
        return mask;
    }

    public int quorum() {
        return state.quorum;
    }

    public boolean isQuorate() {
        return present() >= state.quorum;
    }

    public int wardWeight(int ward) {
        index(0 <= ward && ward <= 3);
        return state.members.stream().filter(m -> m.present && m.ward == ward).mapToInt(m -> m.weight).sum();
    }

    public int strongestWard() {
        List<Integer> wards = new ArrayList<>(List.of(0, 1, 2, 3));
        wards.sort(Comparator.comparing(w -> -wardWeight(w)));
        return wards.get(0);
    }

    public int introduce(int member, int first, int last) {
        Member m = member(member);
        index(0 <= first && first <= 63 && 0 <= last && last <= 63);
        argument(first <= last);
        state(state.bills.size() < 8);
        allowed(m.present);
        change();
        Bill b = new Bill();
        for (int clause = first; clause <= last; clause++) {
            b.clauses.add(clause);
        }
        state.bills.add(b);
        return state.bills.size() - 1;
    }

    public int billCount() {
        return state.bills.size();
    }

    public boolean isOpen(int bill) {
        return bill(bill).status.equals("open");
    }

    public boolean isPassed(int bill) {
        return bill(bill).status.equals("passed");
    }

    public int readings(int bill) {
        return bill(bill).readings;
    }

    public long clauses(int bill) {
        long mask = 0;
        for (int clause : bill(bill).clauses) {
            mask |= 1L << clause;
        }
        return mask;
    }

    public int clauseCount(int bill) {
        return bill(bill).clauses.size();
    }

    public int longestRun(int bill) {
        int longest = 0;
        for (int from : bill(bill).clauses) {
            int to = from;
            while (bill(bill).clauses.contains(to)) {
                to++;
            }
            longest = Math.max(longest, to - from);
        }
        return longest;
    }

    public int longestRunByShift(int bill) {
        return longestRun(bill);
    }

    public int billAtRank(int rank) {
        element(0 <= rank && rank < state.bills.size());
        List<Integer> bills = new ArrayList<>();
        for (int b = 0; b < state.bills.size(); b++) {
            bills.add(b);
        }
        bills.sort(Comparator.comparing((Integer b) -> -readings(b)).thenComparing(this::rust));
        return bills.get(rank);
    }

    private int vote(int bill, int member, boolean inFavour) {
        Bill b = bill(bill);
        Member m = member(member);
        state(isOpen(bill));
        allowed(m.present);
        change();
        b.votes.put(member, inFavour);
        return weight(b, inFavour);
    }

    public int voteFor(int bill, int member) {
        return vote(bill, member, true);
    }

    public int voteAgainst(int bill, int member) {
        return vote(bill, member, false);
    }

    public int weightFor(int bill) {
        return weight(bill(bill), true);
    }

    public int weightForByDigits(int bill) {
        return weight(bill(bill), true);
    }

    public int weightAgainst(int bill) {
        return weight(bill(bill), false);
    }

    private static void finish(Bill bill, String status) {
        bill.status = status;
        bill.votes.clear();
        bill.pending.clear();
    }

    public boolean closeReading(int bill) {
        Bill b = bill(bill);
        state(isOpen(bill));
        allowed(isQuorate() && b.pending.isEmpty());
        change();
        boolean success = weight(b, true) > weight(b, false);
        b.votes.clear();
        if (success) {
            b.readings++;
        }
        if (!success) {
            finish(b, "fallen");
        } else if (b.readings == 3) {
            finish(b, "passed");
        }
        return success;
    }

    public int propose(int bill, int member, int clause) {
        Bill b = bill(bill);
        Member m = member(member);
        index(0 <= clause && clause <= 63);
        state(isOpen(bill) && b.pending.size() < 4);
        allowed(m.present);
        change();
        Amendment a = new Amendment();
        a.clause = clause;
        a.supporters.add(member);
        b.pending.add(a);
        return b.pending.size() - 1;
    }

    public int support(int bill, int position, int member) {
        Bill b = bill(bill);
        Member m = member(member);
        state(isOpen(bill));
        element(0 <= position && position < b.pending.size());
        allowed(m.present);
        change();
        b.pending.get(position).supporters.add(member);
        return weight(b.pending.get(position).supporters);
    }

    public boolean decide(int bill) {
        Bill b = bill(bill);
        state(isOpen(bill));
        element(!b.pending.isEmpty());
        allowed(isQuorate());
        change();
        Amendment a = b.pending.remove(0);
        int chamber = state.members.stream().filter(m -> m.present).mapToInt(m -> m.weight).sum();
        if (weight(a.supporters) * 2 <= chamber) {
            return false;
        }
        if (!b.clauses.remove(a.clause)) {
            b.clauses.add(a.clause);
        }
        state.accepted++;
        return true;
    }

    public int pendingCount(int bill) {
        return bill(bill).pending.size();
    }

    private Amendment amendment(int bill, int position) {
        Bill b = bill(bill);
        element(0 <= position && position < b.pending.size());
        return b.pending.get(position);
    }

    public int amendedClause(int bill, int position) {
        return amendment(bill, position).clause;
    }

    public int supportWeight(int bill, int position) {
        return weight(amendment(bill, position).supporters);
    }

    public int ride(int member, int bill, int minutes) {
        Member m = member(member);
        Bill b = bill(bill);
        argument(1 <= minutes && minutes <= 30);
        state(isOpen(bill));
        allowed(m.present);
        change();
        b.delay += minutes;
        if (rust(bill) >= 3) {
            finish(b, "fallen");
        }
        return rust(bill);
    }

    public int delay(int bill) {
        return bill(bill).delay;
    }

    public int rust(int bill) {
        return (int) Math.floor(bill(bill).delay / 60.0);
    }

    public int ridesUntilFall(int bill, int minutes) {
        Bill b = bill(bill);
        argument(1 <= minutes && minutes <= 30);
        state(isOpen(bill));
        int rides = 0;
        for (int delay = b.delay; delay / 60 < 3; delay += minutes) {
            rides++;
        }
        return rides;
    }

    public int passedCount() {
        return (int) state.bills.stream().filter(b -> b.status.equals("passed")).count();
    }

    public int fallenCount() {
        return (int) state.bills.stream().filter(b -> b.status.equals("fallen")).count();
    }

    public int acceptedCount() {
        return state.accepted;
    }

    public int append(char character) {
        argument(32 <= character && character <= 126);
        state(text.length() < 60);
        text += character;
        return text.length();
    }

    public int run() {
        String toRun = text;
        text = "";
        if (!TEXT.matcher(toRun).matches()) {
            errorPosition = errorOf(toRun);
            throw new IllegalArgumentException();
        }
        State before = state.copy();
        String[] commands = toRun.split(";");
        running = true;
        for (int i = 0; i < commands.length; i++) {
            try {
                carryOut(commands[i]);
            } catch (RuntimeException e) {
                running = false;
                state = before;
                failedCommand = i;
                throw new IllegalStateException();
            }
        }
        running = false;
        push(before);
        return commands.length;
    }

    private static int errorOf(String text) {
        for (int length = 1; length <= text.length(); length++) {
            Matcher matcher = TEXT.matcher(text.substring(0, length));
            if (!matcher.matches() && !matcher.hitEnd()) {
                return length - 1;
            }
        }
        return text.length();
    }

    private void carryOut(String command) {
        String keyword = command.substring(0, command.indexOf(' '));
        String rest = command.substring(command.indexOf(' ') + 1);
        if (keyword.equals("member") || keyword.equals("support")) {
            rest = rest.charAt(0) + " " + rest.substring(1);
        }
        String[] numbers = rest.split("[ -]");
        int[] n = new int[3];
        for (int i = 0; i < numbers.length; i++) {
            n[i] = Integer.parseInt(numbers[i]);
        }
        switch (keyword) {
            case "member" -> addMember(n[0], n[1]);
            case "enter" -> enter(n[0]);
            case "leave" -> leave(n[0]);
            case "quorum" -> setQuorum(n[0]);
            case "bill" -> introduce(n[0], n[1], n[2]);
            case "yes" -> voteFor(n[0], n[1]);
            case "no" -> voteAgainst(n[0], n[1]);
            case "close" -> closeReading(n[0]);
            case "amend" -> propose(n[0], n[1], n[2]);
            case "support" -> support(n[0], n[1], n[2]);
            case "decide" -> decide(n[0]);
            case "ride" -> ride(n[0], n[1], n[2]);
            default -> throw new AssertionError(keyword);
        }
    }

    public int errorPosition() {
        element(errorPosition != null);
        return errorPosition;
    }

    public int failedCommand() {
        element(failedCommand != null);
        return failedCommand;
    }

    public int describeBill(int bill) {
        Bill b = bill(bill);
        line = bill + b.status.substring(0, 1) + b.readings + "*".repeat(rust(bill)) + ":" + b.clauses.size();
        if (isOpen(bill)) {
            line += "+" + weight(b, true) + "-" + weight(b, false);
        }
        return line.length();
    }

    public char lineAt(int index) {
        index(0 <= index && index < line.length());
        return line.charAt(index);
    }

    public double meanWeight() {
        if (state.members.isEmpty()) {
            throw new ArithmeticException();
        }
        return (double) state.members.stream().mapToInt(m -> m.weight).sum() / (double) state.members.size();
    }

    public int shareBits(int bill) {
        Bill b = bill(bill);
        if (b.votes.isEmpty()) {
            throw new ArithmeticException();
        }
        return Float.floatToIntBits((float) weight(b, true) / (float) (weight(b, true) + weight(b, false)));
    }

    public boolean isConsistent() {
        return true;
    }

    public int undo() {
        state(!past.isEmpty());
        state = past.removeLast();
        return past.size();
    }

    public int save() {
        saved = state.copy();
        return state.bills.size();
    }

    public int restore() {
        state(saved != null);
        state = saved.copy();
        past.clear();
        return state.bills.size();
    }
}
