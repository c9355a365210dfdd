import java.lang.reflect.InvocationTargetException;
import java.lang.reflect.Method;
import java.util.ArrayList;
import java.util.Arrays;
import java.util.Comparator;
import java.util.List;
import java.util.Random;

/**
 * Plays the same calls on a Clockhouse and on the plain Model of the document, and compares every answer and every
 * exception.
 */
public final class ModelTest {

    private static final int RUNS = 600;
    private static final int CALLS = 512;

    private static final String[] CHANGES = {
        "dial", "set", "lengthen", "plus", "times", "negate", "reduce", "roundPlus", "roundTimes", "roundPower",
        "roundInverse", "tell", "tellIf", "drop", "base", "unbase", "undo"};

    public static void main(String[] args) throws Exception {
        Method[] face = faceInOrder();
        int wrong = 0;
        for (int run = 0; run < RUNS && wrong < 10; run++) {
            wrong += playRun(run, face);
        }
        wrong += playLongNumbers();
        System.out.println(wrong == 0 ? "class and model agree" : wrong + " answers differ from the model's");
        if (wrong != 0) {
            System.exit(1);
        }
    }

    private static Method[] faceInOrder() {
        List<Method> face = new ArrayList<>();
        for (Method m : Clockhouse.class.getDeclaredMethods()) {
            if (java.lang.reflect.Modifier.isPublic(m.getModifiers())) {
                face.add(m);
            }
        }
        face.sort(Comparator.comparing(Method::getName));
        return face.toArray(new Method[0]);
    }

    private static int playRun(int run, Method[] face) throws Exception {
        Random random = new Random(run);
        Clockhouse house = new Clockhouse();
        Model model = new Model();
        List<String> told = new ArrayList<>();
        for (int i = 0; i < CALLS; i++) {
            Method m = pick(face, random);
            Object[] arguments = arguments(m, random, model, run);
            Object got = answer(m, house, arguments);
            Object due = answer(Model.class.getDeclaredMethod(m.getName(), m.getParameterTypes()), model, arguments);
            String call = m.getName() + Arrays.toString(arguments);
            if (!got.equals(due)) {
                System.out.println("run " + run + ", call " + i + ": " + call + " answered " + got + ", due is " + due);
                int from = Math.max(0, told.size() - 15);
                System.out.println("  behind " + told.subList(from, told.size()));
                return 1;
            }
            told.add(call + "=" + got);
        }
        return 0;
    }

    private static Method pick(Method[] face, Random random) {
        if (random.nextInt(10) < 4) {
            return face[random.nextInt(face.length)];
        }
        String name = CHANGES[random.nextInt(CHANGES.length)];
        for (Method m : face) {
            if (m.getName().equals(name)) {
                return m;
            }
        }
        throw new IllegalStateException(name);
    }

    private static Object answer(Method m, Object object, Object[] arguments) throws Exception {
        try {
            return m.invoke(object, arguments);
        } catch (InvocationTargetException e) {
            return "throws " + e.getCause().getClass().getName();
        }
    }

    private static Object[] arguments(Method m, Random random, Model model, int run) {
        Object[] arguments = new Object[m.getParameterCount()];
        for (int i = 0; i < arguments.length; i++) {
            arguments[i] = argument(m.getName(), i, random, model, run);
        }
        return arguments;
    }

    private static int argument(String name, int place, Random random, Model model, int run) {
        if (random.nextInt(60) == 0) {
            int[] odd = {-1, 6, 7, 4, Integer.MIN_VALUE, Integer.MAX_VALUE, 1000, 401, -10, 10000, -10000, 1000000000};
            return odd[random.nextInt(odd.length)];
        }
        switch (name) {
            case "dial":
                return random.nextInt(8) == 0 ? random.nextInt(11) - 9
                        : run % 2 == 0 ? 1 + random.nextInt(30) : 1 + random.nextInt(400);
            case "set":
                return place == 0 ? random.nextInt(6) : value(random);
            case "lengthen":
                return place == 0 ? random.nextInt(6) : limb(random);
            case "tell":
            case "tellIf":
            case "wouldJoin":
                return place == 0 ? random.nextInt(19999) - 9999 : size(random, run);
            case "base":
                return run % 3 == 0 ? 990 + random.nextInt(10) : 2 + random.nextInt(998);
            case "drop":
            case "agree":
                return random.nextInt(Math.max(1, model.rows()));
            case "ofRow":
                return place == 0 ? random.nextInt(Math.max(1, model.rows())) : random.nextInt(2);
            case "clash":
                return random.nextInt(2);
            case "generator":
                return random.nextInt(6);
            case "books":
                return random.nextInt(4);
            case "solution":
                return place < 2 ? random.nextInt(6) : random.nextInt(5);
            case "root":
                return place == 0 ? random.nextInt(6) : random.nextInt(4);
            case "ofPowers":
                return place == 0 ? random.nextInt(6) : random.nextInt(4);
            default:
                return random.nextInt(6);
        }
    }

    private static int size(Random random, int run) {
        if (run % 3 == 0) {
            int[] small = {1, 2, 3, 4, 5, 6, 8, 12, 30};
            return small[random.nextInt(small.length)];
        }
        return run % 3 == 1 ? 980 + random.nextInt(20) : 1 + random.nextInt(999);
    }

    private static int value(Random random) {
        switch (random.nextInt(4)) {
            case 0:
                return random.nextInt();
            case 1:
                int[] edges = {0, 1, -1, 2, -2, 999999999, 1000000000, Integer.MAX_VALUE, Integer.MIN_VALUE};
                return edges[random.nextInt(edges.length)];
            default:
                return random.nextInt(41) - 20;
        }
    }

    private static int limb(Random random) {
        int[] edges = {0, 1, 999999999, 999999998, 499999999, 500000000};
        return random.nextBoolean() ? edges[random.nextInt(edges.length)] : random.nextInt(1000000000);
    }

    /** Numbers of edge limbs, where a long division guesses wrong. */
    private static int playLongNumbers() {
        Random random = new Random(7);
        for (int i = 0; i < 40000; i++) {
            Clockhouse house = new Clockhouse();
            Model model = new Model();
            for (int slot = 0; slot < 3; slot++) {
                fill(house, model, slot, random);
            }
            boolean same = house.bigMod(0, 1).equals(model.bigMod(0, 1))
                    && house.bigGcd(0, 1).equals(model.bigGcd(0, 1))
                    && house.bigInverse(0, 1).equals(model.bigInverse(0, 1))
                    && (i % 20 != 0 || house.bigPower(0, 2, 1).equals(model.bigPower(0, 2, 1)));
            if (!same) {
                System.out.println("long numbers differ: " + model.number(0) + " " + model.number(1) + " "
                        + model.number(2));
                return 1;
            }
        }
        return 0;
    }

    private static void fill(Clockhouse house, Model model, int slot, Random random) {
        int first = random.nextInt(4) == 0 ? value(random) : limb(random);
        house.set(slot, first);
        model.set(slot, first);
        int more = random.nextInt(first > -1000000000 && first < 1000000000 ? 4 : 3);
        for (int j = 0; j < more; j++) {
            int next = limb(random);
            house.lengthen(slot, next);
            model.lengthen(slot, next);
        }
    }
}
