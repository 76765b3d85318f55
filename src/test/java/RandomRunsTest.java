import java.lang.reflect.InvocationTargetException;
import java.lang.reflect.Method;
import java.util.ArrayList;
import java.util.List;
import java.util.Random;

/** Runs of 512 calls, the same ones each time, compared answer by answer with the ReferenceSorter. */
public final class RandomRunsTest {
    private static final int RUNS = 600;
    private static final int CALLS = 512;
    private static final String[] ASKED = {
        "stationAt", "tick", "stateOf", "positionOf", "roundsOf", "trayAt", "waiting", "onLoop", "overflowed",
        "leavingAhead", "leavingByTrays", "chuteFor", "load", "inChute", "seal", "sealByParcels", "trucks",
        "sealOfTruck", "parcelIn", "truckOf", "shipped", "meanRounds", "overflowShare", "isOnce"};
    private static final int[] WILD = {Integer.MIN_VALUE, -1000, -1, 0, 1, 300, 1000, Integer.MAX_VALUE};

    private RandomRunsTest() {
    }

    public static void main(String[] args) throws ReflectiveOperationException {
        for (int run = 0; run < RUNS && Checks.wrong() == 0; run++) {
            runOnce(run);
        }
        Checks.end("RandomRunsTest");
    }

    private static void runOnce(int run) throws ReflectiveOperationException {
        Random random = new Random(run);
        CrossdockSorter sorter = new CrossdockSorter();
        ReferenceSorter reference = new ReferenceSorter();
        boolean crowded = run % 3 == 0;
        for (int i = 0; i < CALLS && Checks.wrong() == 0; i++) {
            String name = nameOf(random, i, crowded);
            Object[] arguments = argumentsOf(name, random);
            String what = "run " + run + ", call " + i + ": " + name + List.of(arguments);
            Object want = answerOf(reference, name, arguments, "");
            Checks.due(what, answerOf(sorter, name, arguments, what), want);
        }
    }

    private static String nameOf(Random random, int call, boolean crowded) {
        if (call < 4 && random.nextBoolean()) {
            return "setLoop";
        }
        if (call < 20 && random.nextInt(3) == 0) {
            return "addChute";
        }
        int kind = random.nextInt(100);
        if (kind < (crowded ? 65 : 25)) {
            return "arrive";
        }
        if (kind < (crowded ? 70 : 40)) {
            return "pass";
        }
        if (kind < 75) {
            return ASKED[random.nextInt(ASKED.length)];
        }
        String[] rare = {"startWave", "startWave", "assign", "assign", "unassign", "dispatch", "dispatch", "dispatch",
            "jam", "free", "free", "setLimit", "setCapacity", "addChute", "setLoop"};
        return rare[random.nextInt(rare.length)];
    }

    private static Method methodNamed(Class<?> type, String name) {
        for (Method method : type.getDeclaredMethods()) {
            if (method.getName().equals(name) && java.lang.reflect.Modifier.isPublic(method.getModifiers())) {
                return method;
            }
        }
        throw new IllegalStateException("no method " + name);
    }

    private static Object[] argumentsOf(String name, Random random) {
        int count = methodNamed(CrossdockSorter.class, name).getParameterCount();
        List<Object> arguments = new ArrayList<>();
        for (int i = 0; i < count; i++) {
            boolean wild = random.nextInt(60) == 0;
            arguments.add(wild ? WILD[random.nextInt(WILD.length)] : argumentOf(name, i, random));
        }
        return arguments.toArray();
    }

    private static int argumentOf(String name, int index, Random random) {
        switch (name) {
            case "setLoop":
                return 3 + random.nextInt(19);
            case "addChute":
                return index == 0 ? positionOf(random) : random.nextInt(random.nextInt(3) == 0 ? 32 : 6);
            case "setCapacity":
                return index == 0 ? random.nextInt(7) : random.nextInt(random.nextInt(3) == 0 ? 33 : 12);
            case "setLimit":
                return random.nextInt(11);
            case "jam":
            case "free":
            case "stationAt":
            case "trayAt":
                return positionOf(random);
            case "arrive":
                return index == 0 ? random.nextInt(8) : 1 + random.nextInt(9);
            case "pass":
                return random.nextInt(8) == 0 ? random.nextInt(203) : 1 + random.nextInt(20);
            case "leavingAhead":
            case "leavingByTrays":
                return random.nextInt(3) == 0 ? random.nextInt(203) : 1 + random.nextInt(40);
            case "stateOf":
            case "positionOf":
            case "roundsOf":
            case "truckOf":
                return random.nextInt(random.nextInt(4) == 0 ? 301 : 60);
            case "assign":
                return random.nextInt(index == 0 ? 9 : 7);
            case "parcelIn":
                return index == 0 ? random.nextInt(12) : random.nextInt(8) - 1;
            case "sealOfTruck":
                return random.nextInt(20);
            case "unassign":
            case "chuteFor":
            case "load":
                return random.nextInt(9);
            default:
                return random.nextInt(7);
        }
    }

    // Most loops have fewer trays than the greatest one.
    private static int positionOf(Random random) {
        return random.nextInt(random.nextInt(3) == 0 ? 23 : 14) - 1;
    }

    private static Object answerOf(Object object, String name, Object[] arguments, String what)
            throws ReflectiveOperationException {
        Method method = methodNamed(object.getClass(), name);
        method.setAccessible(true);
        try {
            return method.invoke(object, arguments);
        } catch (InvocationTargetException e) {
            if (object instanceof CrossdockSorter) {
                Checks.dueThrownByCode(what, e.getCause());
            }
            return e.getCause().getClass();
        }
    }
}
