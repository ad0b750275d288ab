import java.lang.reflect.InvocationTargetException;
import java.lang.reflect.Method;
import java.lang.reflect.Modifier;
import java.util.ArrayList;
import java.util.List;
import java.util.Random;

/**
 * "what later calls answer is free": but each of them ends, and throws nothing but by a throw
 * statement, and of what the face names. Some runs go on far beyond the 512th call.
 */
final class LaterCallsTest {
    private static final int RUNS = 60;
    private static final int CALLS = 6000;
    private static final int[] ODD = {
        Integer.MIN_VALUE, Integer.MIN_VALUE + 1, -5000, -1, 5, 6, 12, 59, 60, 61, 2000, 2001, 5000,
        5001, 20000, Integer.MAX_VALUE - 1, Integer.MAX_VALUE};

    private final Check check;
    private final Random random;
    private final List<Method> face = new ArrayList<>();
    private final CarriedNumbers x = new CarriedNumbers();
    private final int odd;

    private LaterCallsTest(Check check, int run) {
        this.check = check;
        random = new Random(run);
        odd = run % 3 == 0 ? 60 : 10;
        List<Method> methods = new ArrayList<>(List.of(CarriedNumbers.class.getDeclaredMethods()));
        methods.removeIf(m -> !Modifier.isPublic(m.getModifiers()));
        methods.sort((a, b) -> a.getName().compareTo(b.getName()));
        face.addAll(methods);
    }

    public static void main(String[] args) throws Exception {
        Check check = new Check("LaterCallsTest");
        for (int run = 0; run < RUNS; run++) {
            LaterCallsTest test = new LaterCallsTest(check, run);
            for (int i = 0; i < CALLS; i++) {
                test.ask("run " + run + ", call " + i);
            }
        }
        check.end();
    }

    private void ask(String what) throws Exception {
        Method m = face.get(random.nextInt(face.size()));
        Object[] ints = new Object[m.getParameterCount()];
        for (int i = 0; i < ints.length; i++) {
            boolean drawsOdd = random.nextInt(100) < odd;
            ints[i] = drawsOdd ? ODD[random.nextInt(ODD.length)] : random.nextInt(7);
        }
        String thrown = "";
        try {
            m.invoke(x, ints);
        } catch (InvocationTargetException e) {
            thrown = outsideOf(m, e.getCause());
        }
        check.same(what + ", " + m.getName(), "", thrown);
    }

    /** Empty if the face names the exception; one of the machine has a class of its own. */
    private static String outsideOf(Method m, Throwable thrown) {
        for (Class<?> named : m.getExceptionTypes()) {
            if (thrown.getClass() == named) {
                String by = thrown.getStackTrace()[0].getClassName();
                return by.startsWith("CarriedNumbers") ? "" : thrown + " by " + by;
            }
        }
        return thrown.toString();
    }
}
