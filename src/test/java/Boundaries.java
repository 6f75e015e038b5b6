import java.io.IOException;
import java.nio.file.Files;
import java.nio.file.Path;
import java.util.Arrays;
import java.util.LinkedHashMap;
import java.util.LinkedHashSet;
import java.util.Map;
import java.util.Set;

/**
 * The book of the document's sentences that name a boundary: each has a test of its own. The book is held
 * against the document, so that no "Throws" sentence and no range of a parameter can be left out, and no
 * sentence can be quoted wrongly.
 */
final class Boundaries {
    static final int WHAT_IT_IS = -1;
    static final int TERMS = 0;

    private static final Path DOCUMENT = Path.of("..", "shared", "DOC.md");
    private static final Map<Integer, Set<String>> told = new LinkedHashMap<>();
    private static int promise;
    private static String sentence = "";

    private Boundaries() {
    }

    interface Making {
        BellParliament make();
    }

    interface Use {
        Object of(BellParliament x);
    }

    interface UseOfNumber {
        Object of(BellParliament x, int number);
    }

    /** A test that breaks off counts as a wrong answer of its sentence, and the next sentence goes on. */
    static void says(int ofPromise, String itsSentence, Runnable test) {
        promise = ofPromise;
        sentence = itsSentence;
        if (!told.computeIfAbsent(promise, p -> new LinkedHashSet<>()).add(sentence)) {
            due("told once", true, () -> false);
        }
        int before = Check.checked();
        try {
            test.run();
        } catch (RuntimeException e) {
            due("the test's own calls", "no exception", () -> e);
        }
        if (Check.checked() == before) {
            due("answers looked at", "some", () -> "none");
        }
    }

    static void due(String what, Object want, Check.Call call) {
        Check.due(promise, "\"" + sentence + "\", " + what, want, call);
    }

    /** The call throws the exception, and nothing that can be asked for afterwards differs. */
    static void refused(String what, String exception, Making made, Use call) {
        BellParliament x = made.make();
        due(what, exception, () -> call.of(x));
        due(what + ", changes nothing", everythingOf(made), () -> everythingOf(() -> {
            BellParliament y = made.make();
            Check.answerOf(() -> call.of(y));
            return y;
        }));
    }

    static void refusedNumbers(String what, String exception, Making made, int[] numbers, UseOfNumber call) {
        for (int number : numbers) {
            refused(what + " " + number, exception, made, x -> call.of(x, number));
        }
    }

    /** What lies outside the numbers from 0 to count - 1. */
    static int[] outside(int count) {
        return outside(0, count - 1);
    }

    /** What lies outside the numbers from first to last: just so, far off, or inside again after a wrap-around. */
    static int[] outside(int first, int last) {
        int[] numbers = {first - 1, last + 1, last + 2, -last, 32, 64, first + 256, first + 65536, Check.LOW,
            Check.LOW + 1, Check.LOW + last, Check.HIGH};
        return Arrays.stream(numbers).filter(n -> n < first || n > last).distinct().toArray();
    }

    /** All that can be told by further calls; each part is asked of an object of its own, within its 512 calls. */
    static String everythingOf(Making made) {
        StringBuilder all = new StringBuilder(stateOf(made.make()));
        for (int times = 1; times <= 9; times++) {
            BellParliament x = made.make();
            for (int i = 0; i < times; i++) {
                all.append("\nundo ").append(Check.answerOf(x::undo));
            }
            all.append(stateOf(x));
        }
        BellParliament x = made.make();
        all.append("\nrestore ").append(Check.answerOf(x::restore)).append(stateOf(x));
        BellParliament y = made.make();
        all.append("\nrun ").append(Check.answerOf(y::run)).append(stateOf(y));
        BellParliament z = made.make();
        all.append("\nappend ").append(Check.answerOf(() -> z.append('~')));
        return all.append(Check.answerOf(z::run)).append(Check.answerOf(z::errorPosition)).toString();
    }

    /** All that can be told without a change. */
    static String stateOf(BellParliament x) {
        StringBuilder s = new StringBuilder(Check.stateOf(x));
        s.append(' ').append(x.memberCount()).append(x.isQuorate()).append(x.strongestWard());
        for (int ward = 0; ward < 4; ward++) {
            s.append(' ').append(x.wardWeight(ward));
        }
        s.append(' ').append(x.billCount()).append(' ').append(x.passedCount()).append(' ').append(x.fallenCount());
        for (int bill = 0; bill < x.billCount(); bill++) {
            s.append(' ').append(x.billAtRank(bill)).append(x.pendingCount(bill));
        }
        s.append(" e").append(Check.answerOf(x::errorPosition)).append(" f").append(Check.answerOf(x::failedCommand));
        return s.append(" l").append(Check.line(x)).append(x.isConsistent()).toString();
    }

    /** Members 0 to 2 are present, member 3 is out; bill 0 is open, bill 1 fallen, bill 2 passed; all else is set. */
    static BellParliament busy() {
        BellParliament x = Check.chamber(5, 3, 7, 1);
        x.leave(3);
        x.introduce(0, 10, 20);
        x.introduce(1, 0, 9);
        x.introduce(2, 63, 63);
        x.closeReading(1);
        for (int reading = 0; reading < 3; reading++) {
            x.voteFor(2, 0);
            x.closeReading(2);
        }
        Check.runText(x, "leave");
        Check.runText(x, "quorum 2;enter 0");
        x.save();
        x.voteFor(0, 0);
        x.voteAgainst(0, 1);
        x.propose(0, 0, 15);
        x.propose(0, 2, 40);
        x.support(0, 0, 1);
        x.ride(1, 0, 30);
        x.ride(1, 0, 30);
        x.ride(2, 0, 1);
        x.describeBill(2);
        Check.put(x, "quorum 2");
        return x;
    }

    /** Members with the weight given, none of them present. */
    static BellParliament members(int count, int weight) {
        BellParliament x = new BellParliament();
        for (int member = 0; member < count; member++) {
            x.addMember(member % 4, weight);
        }
        return x;
    }

    static BellParliament fullChamber() {
        BellParliament x = members(24, 7);
        for (int member = 0; member < 24; member++) {
            x.enter(member);
        }
        return x;
    }

    /** Two members are present, member 2 is out; all bills have the clauses from 3 to 5. */
    static BellParliament bills(int count) {
        BellParliament x = Check.chamber(4, 2, 1);
        x.leave(2);
        for (int bill = 0; bill < count; bill++) {
            x.introduce(0, 3, 5);
        }
        return x;
    }

    /** Turns one clause of a bill over; member 0 must be heavier than half of the chamber, which has a quorum. */
    static void turn(BellParliament x, int bill, int clause) {
        x.propose(bill, 0, clause);
        if (!x.decide(bill)) {
            throw new IllegalStateException("the test's chamber must accept");
        }
    }

    /** Holds the book against the document. */
    static void holdAgainstDocument() throws IOException {
        if (!Files.exists(DOCUMENT)) {
            System.out.println("no document at " + DOCUMENT + ": the book is not held against it");
            return;
        }
        Map<Integer, String> sections = sections(Files.readString(DOCUMENT));
        told.forEach((number, sentences) -> {
            String section = sections.getOrDefault(number, "").replaceAll("\\s+", " ");
            for (String quoted : sentences) {
                Check.due(number, "in the document: " + quoted, true, () -> section.contains(quoted));
            }
        });
        sections.forEach((number, section) -> {
            for (String row : section.split("\n")) {
                String named = row.startsWith("- ") ? row.substring(2) : row;
                if (row.startsWith("Throws ") || row.matches("- .*(\\d to \\d+|from \\d+)")) {
                    Check.due(number, "has a test: " + row, true,
                            () -> told.getOrDefault(number, Set.of()).contains(named));
                }
            }
        });
    }

    private static Map<Integer, String> sections(String document) {
        Map<Integer, String> sections = new LinkedHashMap<>();
        for (String part : document.split("\n## ")) {
            if (part.startsWith("What it is\n")) {
                sections.put(WHAT_IT_IS, part);
            } else if (part.startsWith("Terms\n")) {
                sections.put(TERMS, part);
            } else if (part.startsWith("Promise ")) {
                sections.put(Integer.parseInt(part.substring(8, part.indexOf(':'))), part);
            }
        }
        return sections;
    }
}
