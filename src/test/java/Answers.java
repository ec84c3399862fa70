import java.lang.reflect.InvocationTargetException;
import java.lang.reflect.Method;
import java.lang.reflect.Modifier;
import java.util.ArrayList;
import java.util.Comparator;
import java.util.List;
import java.util.Set;

/** Asks all questions of a sorter, or of the model that has methods of the same names. */
final class Answers {
    private static final Set<String> CHANGING = Set.of("openHub", "addLine", "closeLine", "accept", "scan",
            "deliver", "recall", "pass");
    private static final Set<String> OF_LINES = Set.of("nextDeparture", "waiting", "bagsNeeded", "bagsAtLeast",
            "bags", "riding");
    private static final Set<String> BY_RANK = Set.of("waitingAt", "bagVolume");
    private static final int[] ADDRESSES = {1111, 1234, 2134, 2145, 2911, 3111, 9876, 2013, 213};

    private Answers() {
    }

    static String of(Object sorter) {
        StringBuilder all = new StringBuilder();
        int lines = (int) number(sorter, "lines");
        int parcels = (int) number(sorter, "parcels");
        for (Method method : questions(sorter.getClass())) {
            ask(all, sorter, method, lines, parcels);
        }
        return all.toString();
    }

    private static List<Method> questions(Class<?> kind) {
        List<Method> found = new ArrayList<>();
        for (Method method : kind.getDeclaredMethods()) {
            if (Modifier.isPublic(method.getModifiers()) && !CHANGING.contains(method.getName())) {
                found.add(method);
            }
        }
        found.sort(Comparator.comparing(Method::getName));
        return found;
    }

    private static void ask(StringBuilder all, Object sorter, Method method, int lines, int parcels) {
        String name = method.getName();
        if (method.getParameterCount() == 0) {
            add(all, sorter, method);
        } else if (name.startsWith("hub")) {
            for (int address : ADDRESSES) {
                add(all, sorter, method, address);
            }
        } else if (method.getParameterCount() == 1) {
            int count = OF_LINES.contains(name) ? lines : parcels;
            for (int i = -1; i <= count; i++) {
                add(all, sorter, method, i);
            }
        } else {
            askWithIndex(all, sorter, method, lines, parcels);
        }
    }

    private static void askWithIndex(StringBuilder all, Object sorter, Method method, int lines, int parcels) {
        String name = method.getName();
        boolean isOfLines = BY_RANK.contains(name);
        for (int i = -1; i <= (isOfLines ? lines : parcels); i++) {
            int count = 6;
            if (i >= 0 && i < parcels && name.startsWith("event")) {
                count = (int) number(sorter, "events", i);
            } else if (i >= 0 && i < lines && name.equals("waitingAt")) {
                count = (int) number(sorter, "waiting", i);
            }
            for (int k = -1; k <= count; k++) {
                add(all, sorter, method, i, k);
            }
        }
    }

    private static void add(StringBuilder all, Object sorter, Method method, Object... arguments) {
        all.append(method.getName());
        for (Object argument : arguments) {
            all.append(' ').append(argument);
        }
        all.append(" = ").append(answer(sorter, method, arguments)).append('\n');
    }

    /** The answer of a call, or the name of what it throws. */
    static String answer(Object sorter, Method method, Object... arguments) {
        try {
            method.setAccessible(true);
            return String.valueOf(method.invoke(sorter, arguments));
        } catch (InvocationTargetException e) {
            return e.getCause().getClass().getName();
        } catch (IllegalAccessException e) {
            return "no access";
        }
    }

    static String answer(Object sorter, String name, Object[] arguments) {
        return answer(sorter, method(sorter.getClass(), name), arguments);
    }

    static Method method(Class<?> kind, String name) {
        for (Method method : kind.getDeclaredMethods()) {
            if (method.getName().equals(name) && Modifier.isPublic(method.getModifiers())) {
                return method;
            }
        }
        return null;
    }

    private static long number(Object sorter, String name, Object... arguments) {
        return Long.parseLong(answer(sorter, method(sorter.getClass(), name), arguments));
    }
}
