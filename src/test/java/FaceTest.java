import java.lang.reflect.Constructor;
import java.lang.reflect.Field;
import java.lang.reflect.Method;
import java.lang.reflect.Modifier;
import java.nio.file.Files;
import java.nio.file.Path;
import java.util.List;
import java.util.Set;
import java.util.TreeSet;
import java.util.regex.Pattern;

/** The class's face is the document's, no more and no less, and its text keeps to rules of LANGUAGE.md. */
public final class FaceTest {

    private static int wrong = 0;

    public static void main(String[] args) throws Exception {
        checkFace();
        checkNames();
        checkText();
        checkRoom();
        System.out.println(wrong == 0 ? "face and language are as due" : wrong + " faults of face or language");
        if (wrong != 0) {
            System.exit(1);
        }
    }

    private static void fault(String text) {
        wrong++;
        System.out.println(text);
    }

    private static Set<String> dueFace() throws Exception {
        Set<String> due = new TreeSet<>();
        for (String line : Files.readString(Path.of("../shared/DOC.md")).split("\n")) {
            String text = line.trim();
            if (text.startsWith("public ") && text.endsWith(";")) {
                due.add(text.replaceAll("(int|long|boolean|String) \\w+([,)])", "$1$2"));
            }
        }
        return due;
    }

    private static String throwsOf(Class<?>[] types) {
        StringBuilder text = new StringBuilder();
        for (Class<?> type : types) {
            text.append(text.length() == 0 ? " throws " : ", ").append(type.getSimpleName());
        }
        return text.toString();
    }

    private static String parametersOf(Class<?>[] types) {
        StringBuilder text = new StringBuilder();
        for (Class<?> type : types) {
            text.append(text.length() == 0 ? "" : ", ").append(type.getSimpleName());
        }
        return text.toString();
    }

    private static void checkFace() throws Exception {
        Set<String> got = new TreeSet<>();
        for (Constructor<?> c : Clockhouse.class.getDeclaredConstructors()) {
            got.add("public Clockhouse(" + parametersOf(c.getParameterTypes()) + ")" + throwsOf(c.getExceptionTypes())
                    + ";");
        }
        for (Method m : Clockhouse.class.getDeclaredMethods()) {
            if (Modifier.isPrivate(m.getModifiers())) {
                continue;
            }
            got.add(Modifier.toString(m.getModifiers()) + " " + m.getReturnType().getSimpleName() + " " + m.getName()
                    + "(" + parametersOf(m.getParameterTypes()) + ")" + throwsOf(m.getExceptionTypes()) + ";");
        }
        if (!got.equals(dueFace())) {
            fault("the face is " + got + ", due is " + dueFace());
        }
        for (Field f : Clockhouse.class.getDeclaredFields()) {
            if (!Modifier.isPrivate(f.getModifiers())) {
                fault("no private field: " + f.getName());
            }
        }
    }

    private static void checkNames() {
        Set<String> face = new TreeSet<>();
        for (Method m : Clockhouse.class.getDeclaredMethods()) {
            if (Modifier.isPublic(m.getModifiers())) {
                face.add(m.getName());
            }
        }
        for (Class<?> inside : Clockhouse.class.getDeclaredClasses()) {
            for (Method m : inside.getDeclaredMethods()) {
                if (face.contains(m.getName())) {
                    fault(inside.getSimpleName() + " has a method with a name of the face: " + m.getName());
                }
            }
            if (!Modifier.isStatic(inside.getModifiers()) || Modifier.isPublic(inside.getModifiers())) {
                fault("no static inner class: " + inside.getSimpleName());
            }
        }
        if (Clockhouse.class.getDeclaredClasses().length > 11) {
            fault("more than 12 classes");
        }
    }

    private static void checkText() throws Exception {
        String source = Files.readString(Path.of("src/main/java/Clockhouse.java"));
        String code = source.replaceAll("(?s)/\\*.*?\\*/", "").replaceAll("//[^\n]*", "")
                .replaceAll("\"[^\"\n]*\"", "\"\"");
        List<String> ruledOut = List.of("\\bimport\\b", "\\bcatch\\b", "\\bfinally\\b", "->", "::", "\\bassert\\b",
                "\\bsynchronized\\b", "Exact\\b", "static \\{", "\\bwhile\\b", "\"\" \\+", "\\+ \"\"", "\\bvar\\b",
                "\\bdouble\\b", "\\bfloat\\b");
        for (String part : ruledOut) {
            if (Pattern.compile(part).matcher(code).find()) {
                fault("ruled out here: " + part);
            }
        }
        int start = -1;
        String[] lines = source.split("\n");
        for (int i = 0; i < lines.length; i++) {
            if (lines[i].matches("( {4}| {8})\\S.*\\) .*\\{|( {4}| {8})\\S.*\\) \\{") && !lines[i].contains("class ")) {
                start = i;
            }
            if (lines[i].matches(" {4}}| {8}}") && start >= 0) {
                if (i - start > 60) {
                    fault("a method longer than 60 lines from line " + (start + 1));
                }
                start = -1;
            }
        }
    }

    /** A run of 512 of the dearest calls must stay far inside the room of 7.3 million elements. */
    private static void checkRoom() {
        Clockhouse house = new Clockhouse();
        house.dial(397);
        house.set(0, 5);
        com.sun.management.ThreadMXBean bean =
                (com.sun.management.ThreadMXBean) java.lang.management.ManagementFactory.getThreadMXBean();
        house.digest();
        house.powers(0);
        long before = bean.getCurrentThreadAllocatedBytes();
        for (int i = 0; i < 500; i++) {
            house.digest();
        }
        long digests = bean.getCurrentThreadAllocatedBytes() - before;
        if (digests > 100_000) {
            fault("500 digests make " + digests + " bytes");
        }
        before = bean.getCurrentThreadAllocatedBytes();
        for (int i = 0; i < 500; i++) {
            house.powers(0);
        }
        long texts = bean.getCurrentThreadAllocatedBytes() - before;
        if (texts > 3_000_000) {
            fault("500 rows of powers make " + texts + " bytes");
        }
    }
}
