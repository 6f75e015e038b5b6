import java.lang.reflect.Constructor;
import java.lang.reflect.Executable;
import java.lang.reflect.Field;
import java.lang.reflect.Method;
import java.lang.reflect.Modifier;
import java.util.ArrayList;
import java.util.Arrays;
import java.util.Collections;
import java.util.List;

/** The public face is the document's, and nothing more of the class can be seen. */
public final class FaceTest {
    private static final String[] FACE = {
        "public BellParliament()",
        "public int addMember(int,int) throws IndexOutOfBoundsException,IllegalArgumentException,IllegalStateException",
        "public int enter(int) throws IndexOutOfBoundsException,IllegalStateException",
        "public int leave(int) throws IndexOutOfBoundsException,IllegalStateException",
        "public int setQuorum(int) throws IllegalArgumentException",
        "public int memberCount()",
        "public int wardOf(int) throws IndexOutOfBoundsException",
        "public int weightOf(int) throws IndexOutOfBoundsException",
        "public boolean isPresent(int) throws IndexOutOfBoundsException",
        "public int presentMask()",
        "public int quorum()",
        "public boolean isQuorate()",
        "public int wardWeight(int) throws IndexOutOfBoundsException",
        "public int strongestWard()",
        "public int introduce(int,int,int) throws IndexOutOfBoundsException,IllegalArgumentException,"
            + "IllegalStateException,UnsupportedOperationException",
        "public int billCount()",
        "public boolean isOpen(int) throws IndexOutOfBoundsException",
        "public boolean isPassed(int) throws IndexOutOfBoundsException",
        "public int readings(int) throws IndexOutOfBoundsException",
        "public long clauses(int) throws IndexOutOfBoundsException",
        "public int clauseCount(int) throws IndexOutOfBoundsException",
        "public int longestRun(int) throws IndexOutOfBoundsException",
        "public int longestRunByShift(int) throws IndexOutOfBoundsException",
        "public int billAtRank(int) throws NoSuchElementException",
        "public int voteFor(int,int) throws IndexOutOfBoundsException,IllegalStateException,"
            + "UnsupportedOperationException",
        "public int voteAgainst(int,int) throws IndexOutOfBoundsException,IllegalStateException,"
            + "UnsupportedOperationException",
        "public int weightFor(int) throws IndexOutOfBoundsException",
        "public int weightForByDigits(int) throws IndexOutOfBoundsException",
        "public int weightAgainst(int) throws IndexOutOfBoundsException",
        "public boolean closeReading(int) throws IndexOutOfBoundsException,IllegalStateException,"
            + "UnsupportedOperationException",
        "public int propose(int,int,int) throws IndexOutOfBoundsException,IllegalStateException,"
            + "UnsupportedOperationException",
        "public int support(int,int,int) throws IndexOutOfBoundsException,IllegalStateException,"
            + "NoSuchElementException,UnsupportedOperationException",
        "public boolean decide(int) throws IndexOutOfBoundsException,IllegalStateException,"
            + "NoSuchElementException,UnsupportedOperationException",
        "public int pendingCount(int) throws IndexOutOfBoundsException",
        "public int amendedClause(int,int) throws IndexOutOfBoundsException,NoSuchElementException",
        "public int supportWeight(int,int) throws IndexOutOfBoundsException,NoSuchElementException",
        "public int ride(int,int,int) throws IndexOutOfBoundsException,IllegalArgumentException,"
            + "IllegalStateException,UnsupportedOperationException",
        "public int delay(int) throws IndexOutOfBoundsException",
        "public int rust(int) throws IndexOutOfBoundsException",
        "public int ridesUntilFall(int,int) throws IndexOutOfBoundsException,IllegalArgumentException,"
            + "IllegalStateException",
        "public int passedCount()",
        "public int fallenCount()",
        "public int acceptedCount()",
        "public int append(char) throws IllegalArgumentException,IllegalStateException",
        "public int run() throws IllegalArgumentException,IllegalStateException",
        "public int errorPosition() throws NoSuchElementException",
        "public int failedCommand() throws NoSuchElementException",
        "public int describeBill(int) throws IndexOutOfBoundsException",
        "public char lineAt(int) throws IndexOutOfBoundsException",
        "public double meanWeight() throws ArithmeticException",
        "public int shareBits(int) throws IndexOutOfBoundsException,ArithmeticException",
        "public boolean isConsistent()",
        "public int undo() throws IllegalStateException",
        "public int save()",
        "public int restore() throws IllegalStateException",
    };

    public static void main(String[] args) {
        List<String> want = new ArrayList<>(Arrays.asList(FACE));
        Collections.sort(want);
        Check.due(1, "the face", String.join("\n", want), () -> String.join("\n", visible()));
        Check.due(1, "final", true, () -> Modifier.isFinal(BellParliament.class.getModifiers()));
        Check.due(1, "public", true, () -> Modifier.isPublic(BellParliament.class.getModifiers()));
        Check.due(1, "names of the face are used once", "", FaceTest::namesUsedTwice);
        Check.end();
    }

    private static List<String> visible() {
        List<String> found = new ArrayList<>();
        for (Constructor<?> c : BellParliament.class.getDeclaredConstructors()) {
            addVisible(found, c, Modifier.toString(c.getModifiers()) + " BellParliament");
        }
        for (Method m : BellParliament.class.getDeclaredMethods()) {
            addVisible(found, m, Modifier.toString(m.getModifiers()) + " " + m.getReturnType() + " " + m.getName());
        }
        for (Field f : BellParliament.class.getDeclaredFields()) {
            if (!Modifier.isPrivate(f.getModifiers())) {
                found.add("field " + f.getName());
            }
        }
        Collections.sort(found);
        return found;
    }

    private static void addVisible(List<String> found, Executable e, String head) {
        if (Modifier.isPrivate(e.getModifiers())) {
            return;
        }
        found.add(head + "(" + names(e.getParameterTypes()) + ")"
                + (e.getExceptionTypes().length == 0 ? "" : " throws " + names(e.getExceptionTypes())));
    }

    private static String names(Class<?>[] types) {
        List<String> names = new ArrayList<>();
        for (Class<?> type : types) {
            names.add(type.getSimpleName());
        }
        return String.join(",", names);
    }

    private static String namesUsedTwice() {
        List<String> face = new ArrayList<>();
        for (Method m : BellParliament.class.getDeclaredMethods()) {
            if (!Modifier.isPrivate(m.getModifiers())) {
                face.add(m.getName());
            }
        }
        StringBuilder twice = new StringBuilder();
        List<Class<?>> classes = new ArrayList<>(Arrays.asList(BellParliament.class.getDeclaredClasses()));
        classes.add(BellParliament.class);
        for (Class<?> c : classes) {
            for (Method m : c.getDeclaredMethods()) {
                if ((c != BellParliament.class || Modifier.isPrivate(m.getModifiers())) && face.contains(m.getName())) {
                    twice.append(m.getName()).append(' ');
                }
            }
        }
        return twice.toString();
    }
}
