import java.lang.reflect.InvocationTargetException;
import java.lang.reflect.Method;
import java.util.ArrayList;
import java.util.Arrays;
import java.util.Comparator;
import java.util.List;
import java.util.Random;

/**
 * All promises at once: many runs of 512 calls on a BellParliament and on a ModelParliament, whose answers
 * must be the same. The seed of each run is fixed, so that a wrong run can be had again.
 */
public final class ModelTest {
    private static final int RUNS = 1500;
    private static final int CALLS = 512;

    private final Random random;
    private final BellParliament real = new BellParliament();
    private final ModelParliament model = new ModelParliament();
    private final StringBuilder trace = new StringBuilder();
    private int calls = 0;

    private ModelTest(int seed) {
        random = new Random(seed);
    }

    public static void main(String[] args) throws Exception {
        List<Method> face = new ArrayList<>(Arrays.asList(BellParliament.class.getMethods()));
        face.removeIf(m -> m.getDeclaringClass() != BellParliament.class);
        face.sort(Comparator.comparing(Method::getName));
        for (int seed = 1; seed <= RUNS; seed++) {
            String wrong = new ModelTest(seed).play(face, seed);
            if (!wrong.isEmpty()) {
                System.out.println("run " + seed + ":\n" + wrong);
                System.exit(1);
            }
        }
        System.out.println(RUNS + " runs like the model");
    }

    private String play(List<Method> face, int seed) throws Exception {
        boolean fast = seed % 3 != 0;
        if (fast && !fillChamber()) {
            return trace.toString();
        }
        while (calls < CALLS) {
            int dice = random.nextInt(20);
            boolean same;
            if (dice == 0) {
                same = callText();
            } else {
                Method method = face.get(random.nextInt(face.size()));
                boolean rare = method.getName().equals("restore") || method.getName().equals("leave");
                if (rare && random.nextInt(4) != 0) {
                    continue;
                }
                same = call(method.getName(), arguments(method));
            }
            if (!same) {
                return trace.toString();
            }
        }
        return "";
    }

    private boolean fillChamber() throws Exception {
        boolean same = true;
        int members = 3 + random.nextInt(10);
        for (int i = 0; i < members; i++) {
            same &= call("addMember", random.nextInt(4), 1 + random.nextInt(7));
            same &= call("enter", i);
        }
        int bills = 1 + random.nextInt(3);
        for (int i = 0; i < bills; i++) {
            int first = random.nextInt(64);
            same &= call("introduce", 0, first, first + random.nextInt(64 - first));
        }
        return same && call("setQuorum", 1 + random.nextInt(3));
    }

    private Object[] arguments(Method method) {
        Class<?>[] types = method.getParameterTypes();
        Object[] arguments = new Object[types.length];
        for (int i = 0; i < types.length; i++) {
            if (types[i] == char.class) {
                arguments[i] = (char) (random.nextInt(4) == 0 ? random.nextInt(140) : "me 0;1".charAt(random.nextInt(6)));
            } else {
                arguments[i] = number();
            }
        }
        return arguments;
    }

    private int number() {
        switch (random.nextInt(12)) {
            case 0:
                return new int[] {-1, 3, 4, 7, 8, 23, 24, 25, 30, 31, 63, 64, 65}[random.nextInt(13)];
            case 1:
                return random.nextInt(64);
            case 2:
                return random.nextInt(30) + 1;
            case 3:
                return random.nextInt(10) != 0 ? random.nextInt(8) : random.nextBoolean() ? Check.LOW : Check.HIGH;
            case 4:
            case 5:
                return random.nextInt(12);
            default:
                return random.nextInt(3);
        }
    }

    /** Clears the text, puts a new one and runs it; now and then one of its characters is another one. */
    private boolean callText() throws Exception {
        boolean same = call("run");
        StringBuilder text = new StringBuilder(command());
        while (random.nextInt(3) != 0) {
            text.append(';').append(command());
        }
        if (random.nextInt(4) == 0) {
            text.setCharAt(random.nextInt(text.length()), "0 9;-xer".charAt(random.nextInt(8)));
        }
        if (random.nextInt(6) == 0) {
            text.setLength(random.nextInt(text.length() + 1));
        }
        for (int i = 0; i < text.length() && calls < CALLS; i++) {
            same &= call("append", text.charAt(i));
        }
        same &= call("run") && call("errorPosition") && call("failedCommand");
        return same;
    }

    private String command() {
        int a = random.nextInt(3);
        int b = random.nextInt(5) == 0 ? random.nextInt(100) : random.nextInt(4);
        int c = random.nextInt(random.nextBoolean() ? 4 : 70);
        switch (random.nextInt(12)) {
            case 0:
                return "member " + random.nextInt(5) + random.nextInt(9);
            case 1:
                return "enter " + b;
            case 2:
                return "leave " + b;
            case 3:
                return "quorum " + (1 + a);
            case 4:
                return "bill " + b + " " + random.nextInt(30) + "-" + (20 + random.nextInt(45));
            case 5:
                return "yes " + a + " " + b;
            case 6:
                return "no " + a + " " + b;
            case 7:
                return "close " + a;
            case 8:
                return "amend " + a + " " + b + " " + c;
            case 9:
                return "support " + a + random.nextInt(3) + " " + b;
            case 10:
                return "decide " + a;
            default:
                return "ride " + b + " " + a + " " + random.nextInt(33);
        }
    }

    /** What comes behind the last of the 512 calls is left out: its answer is free. */
    private boolean call(String name, Object... arguments) throws Exception {
        if (calls == CALLS) {
            return true;
        }
        calls++;
        Class<?>[] types = new Class<?>[arguments.length];
        for (int i = 0; i < types.length; i++) {
            types[i] = arguments[i] instanceof Character ? char.class : int.class;
        }
        String want = answer(model, ModelParliament.class.getMethod(name, types), arguments);
        String got = answer(real, BellParliament.class.getMethod(name, types), arguments);
        trace.append(name).append(Arrays.toString(arguments)).append(" answered ").append(got);
        if (!got.equals(want)) {
            trace.append(", due is ").append(want);
        }
        trace.append('\n');
        return got.equals(want);
    }

    private static String answer(Object object, Method method, Object[] arguments) throws IllegalAccessException {
        try {
            return String.valueOf(method.invoke(object, arguments));
        } catch (InvocationTargetException e) {
            return "throws." + e.getCause().getClass().getSimpleName();
        }
    }
}
