import java.lang.reflect.Constructor;
import java.lang.reflect.Field;
import java.lang.reflect.Method;
import java.lang.reflect.Modifier;
import java.nio.file.Files;
import java.nio.file.Path;
import java.util.Set;
import java.util.TreeSet;

/** The class's face is the document's, no more and no less; and a run of the dearest calls stays in its room. */
public final class FaceTest {

    private static int wrong = 0;

    public static void main(String[] args) throws Exception {
        checkFace();
        checkRoom();
        System.out.println(wrong == 0 ? "face and room are as due" : wrong + " faults of face or room");
        if (wrong != 0) {
            System.exit(1);
        }
    }

    private static void fault(String text) {
        wrong++;
        System.out.println(text);
    }

    private static Set<String> dueFace() throws Exception {
        Set<String> due = new TreeSet<>();
        for (String line : Files.readString(Path.of("../shared/DOC.md")).split("\n")) {
            String text = line.trim();
            if (text.startsWith("public ") && text.endsWith(";")) {
                due.add(text.replaceAll("(int|long|boolean|String) \\w+([,)])", "$1$2"));
            }
        }
        return due;
    }

    private static String throwsOf(Class<?>[] types) {
        StringBuilder text = new StringBuilder();
        for (Class<?> type : types) {
            text.append(text.length() == 0 ? " throws " : ", ").append(type.getSimpleName());
        }
        return text.toString();
    }

    private static String parametersOf(Class<?>[] types) {
        StringBuilder text = new StringBuilder();
        for (Class<?> type : types) {
            text.append(text.length() == 0 ? "" : ", ").append(type.getSimpleName());
        }
        return text.toString();
    }

    private static void checkFace() throws Exception {
        Set<String> got = new TreeSet<>();
        for (Constructor<?> c : Clockhouse.class.getDeclaredConstructors()) {
            got.add("public Clockhouse(" + parametersOf(c.getParameterTypes()) + ")" + throwsOf(c.getExceptionTypes())
                    + ";");
        }
        for (Method m : Clockhouse.class.getDeclaredMethods()) {
            if (Modifier.isPrivate(m.getModifiers())) {
                continue;
            }
            got.add(Modifier.toString(m.getModifiers()) + " " + m.getReturnType().getSimpleName() + " " + m.getName()
                    + "(" + parametersOf(m.getParameterTypes()) + ")" + throwsOf(m.getExceptionTypes()) + ";");
        }
        if (!got.equals(dueFace())) {
            fault("the face is " + got + ", due is " + dueFace());
        }
        for (Field f : Clockhouse.class.getDeclaredFields()) {
            if (!Modifier.isPrivate(f.getModifiers())) {
                fault("no private field: " + f.getName());
            }
        }
    }

    /** A run of 512 of the dearest calls must stay far inside the room of 7.3 million elements. */
    private static void checkRoom() {
        Clockhouse house = new Clockhouse();
        house.dial(397);
        house.set(0, 5);
        com.sun.management.ThreadMXBean bean =
                (com.sun.management.ThreadMXBean) java.lang.management.ManagementFactory.getThreadMXBean();
        house.digest();
        house.powers(0);
        long before = bean.getCurrentThreadAllocatedBytes();
        for (int i = 0; i < 500; i++) {
            house.digest();
        }
        long digests = bean.getCurrentThreadAllocatedBytes() - before;
        if (digests > 100_000) {
            fault("500 digests make " + digests + " bytes");
        }
        before = bean.getCurrentThreadAllocatedBytes();
        for (int i = 0; i < 500; i++) {
            house.powers(0);
        }
        long texts = bean.getCurrentThreadAllocatedBytes() - before;
        if (texts > 3_000_000) {
            fault("500 rows of powers make " + texts + " bytes");
        }
    }
}
