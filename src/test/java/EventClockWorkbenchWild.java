import java.lang.reflect.InvocationTargetException;
import java.lang.reflect.Method;
import java.lang.reflect.Modifier;
import java.util.ArrayList;
import java.util.Arrays;
import java.util.Comparator;
import java.util.List;
import java.util.Random;

/** Random calls with any arguments: what they throw is declared, and thrown by a throw statement of the class. */
public final class EventClockWorkbenchWild {
    private static final int[] EXTREMES = {Integer.MIN_VALUE, Integer.MAX_VALUE, Integer.MIN_VALUE + 1, -1, 10, 16, 30,
        100, 1 << 28, 0x2AAAAAAB, 613566757, 357913942};

    private static final int MOST_TOLD = 5;
    private static int wrong = 0;

    public static void main(String[] args) throws IllegalAccessException {
        List<Method> methods = new ArrayList<>();
        for (Method method : EventClockWorkbench.class.getDeclaredMethods()) {
            if (Modifier.isPublic(method.getModifiers())) {
                methods.add(method);
            }
        }
        methods.sort(Comparator.comparing(Method::getName));
        for (int seed = 0; seed < 500; seed++) {
            Random random = new Random(seed);
            EventClockWorkbench x = new EventClockWorkbench();
            for (int i = 0; i < 512; i++) {
                call(x, methods.get(random.nextInt(methods.size())), random, seed % 3);
            }
        }
        System.out.println(wrong == 0 ? "nothing undeclared was thrown" : wrong + " throws were not declared");
        if (wrong != 0) {
            System.exit(1);
        }
    }

    private static void call(EventClockWorkbench x, Method method, Random random, int style)
            throws IllegalAccessException {
        Object[] arguments = new Object[method.getParameterCount()];
        for (int i = 0; i < arguments.length; i++) {
            arguments[i] = method.getParameterTypes()[i] == boolean.class ? (Object) random.nextBoolean()
                    : number(method, random, style);
        }
        try {
            method.invoke(x, arguments);
        } catch (InvocationTargetException e) {
            Throwable thrown = e.getCause();
            boolean declared = Arrays.asList(method.getExceptionTypes()).contains(thrown.getClass());
            boolean own = thrown.getStackTrace()[0].getMethodName().startsWith("require");
            if (!declared || !own) {
                tell(method + Arrays.toString(arguments) + " threw " + thrown, thrown);
            }
        }
    }

    /** One fault can show in thousands of calls, so only the first are told. */
    private static void tell(String fault, Throwable thrown) {
        wrong++;
        if (wrong <= MOST_TOLD) {
            System.out.println(fault);
            thrown.printStackTrace(System.out);
        }
    }

    private static int number(Method method, Random random, int style) {
        if (method.getName().equals("appendCharacter")) {
            String likely = "aabbcc<=>?!&0123";
            return style == 0 ? random.nextInt(140) : likely.charAt(random.nextInt(likely.length()));
        }
        if (style == 0 && random.nextInt(6) == 0) {
            return EXTREMES[random.nextInt(EXTREMES.length)];
        }
        return random.nextInt(style == 2 ? 3 : 6);
    }
}
