import java.io.IOException;
import java.lang.reflect.Field;
import java.lang.reflect.Method;
import java.lang.reflect.Modifier;
import java.nio.file.Files;
import java.nio.file.Path;
import java.util.ArrayList;
import java.util.HashSet;
import java.util.List;
import java.util.Map;
import java.util.Set;
import java.util.TreeMap;
import java.util.regex.Matcher;
import java.util.regex.Pattern;
import java.util.stream.Stream;

/** The rules of LANGUAGE.md one by one, held against the class's text and its compiled code. */
public final class LanguageTest {

    private static final int MOST_CLASSES = 12;
    private static final int MOST_FIELDS = 20;
    private static final int MOST_PARAMETERS = 7;
    private static final int MOST_LINES = 60;
    private static final int MOST_DEEP = 8;

    private static final String EXCEPTIONS = "IllegalStateException|IllegalArgumentException|IndexOutOfBoundsException|"
            + "ArithmeticException|UnsupportedOperationException|NoSuchElementException|RuntimeException";
    /** Rule 4, as far as a class without lists needs it. */
    private static final Pattern LIBRARY = Pattern.compile("java/lang/Object\\.<init>\\(\\).*"
            + "|java/(lang|util)/(" + EXCEPTIONS + ")\\.<init>\\((Ljava/lang/String;)?\\).*"
            + "|java/lang/String\\.((length|charAt|isEmpty|equals|substring|toCharArray)\\(.*|indexOf\\(I\\).*"
            + "|<init>\\(\\[C\\).*)"
            + "|java/lang/StringBuilder\\.(<init>\\(\\)|append\\((C|I|Ljava/lang/String;)\\)|charAt\\(|setCharAt\\("
            + "|setLength\\(|deleteCharAt\\(|reverse\\(|length\\(|toString\\().*"
            + "|java/lang/(Integer|Long|Math)\\.(bitCount|abs|max|min|compare|floorDiv|floorMod)\\([IJ]+\\)[IJ]"
            + "|java/lang/System\\.arraycopy\\(.*|java/util/Arrays\\.(copyOf|copyOfRange|fill)\\(.*");
    private static final Pattern TYPE = Pattern.compile("\\[?([IJSBCZV]|Ljava/lang/String;|LClockhouse(\\$\\w+)?;)"
            + "|\\[\\[[IJSBCZ]|Ljava/lang/StringBuilder;");
    private static final Pattern STATIC_TYPE = Pattern.compile("[IJZC]|Ljava/lang/String;|\\[[IJCB]");

    private static final List<ClassFile> files = new ArrayList<>();
    private static final Map<String, Set<String>> calls = new TreeMap<>();
    private static String source;
    private static String code;
    private static int wrong = 0;

    public static void main(String[] args) throws Exception {
        readAll();
        rule1Face();
        rule2Inside();
        rule3Types();
        rule4Library();
        rule5Statics();
        rule6Exceptions();
        rule8Recursion();
        rule9Loops();
        rule10Texts();
        rule11Sizes();
        rule12Objects();
        System.out.println(wrong == 0 ? "the class keeps to its language" : wrong + " faults of language");
        if (wrong != 0) {
            System.exit(1);
        }
    }

    private static void fault(int rule, String text) {
        wrong++;
        System.out.println("rule " + rule + ": " + text);
    }

    private static void readAll() throws Exception {
        source = Files.readString(Path.of("src/main/java/Clockhouse.java"));
        code = source.replaceAll("(?s)/\\*.*?\\*/", "").replaceAll("//[^\n]*", "").replaceAll("\"[^\"\n]*\"", "\"\"");
        Path folder = Path.of(Clockhouse.class.getProtectionDomain().getCodeSource().getLocation().toURI());
        try (Stream<Path> all = Files.list(folder)) {
            for (Path path : all.sorted().toList()) {
                if (path.getFileName().toString().matches("Clockhouse(\\$.*)?\\.class")) {
                    files.add(new ClassFile(Files.readAllBytes(path)));
                }
            }
        }
        for (ClassFile file : files) {
            for (ClassFile.Member method : file.methods) {
                Set<String> called = new HashSet<>();
                for (ClassFile.Step step : method.steps()) {
                    if (step.isCall() && isOwn(step.owner())) {
                        called.add(nameOf(step));
                    }
                }
                calls.put(nameOf(file, method), called);
            }
        }
    }

    private static String nameOf(ClassFile file, ClassFile.Member method) {
        return file.name + "." + method.name() + method.type();
    }

    private static String nameOf(ClassFile.Step step) {
        return step.owner() + "." + step.name() + step.type();
    }

    private static boolean isOwn(String owner) {
        return owner.matches("Clockhouse(\\$.*)?");
    }

    private interface Look {
        void at(String where, ClassFile.Member method, ClassFile.Step step);
    }

    private static void eachStep(Look look) {
        for (ClassFile file : files) {
            for (ClassFile.Member method : file.methods) {
                for (ClassFile.Step step : method.steps()) {
                    look.at(nameOf(file, method), method, step);
                }
            }
        }
    }

    /** No method that is not public bears the name of a public one; FaceTest compares the face itself. */
    private static void rule1Face() {
        Set<String> face = new HashSet<>();
        for (Method m : Clockhouse.class.getDeclaredMethods()) {
            if (Modifier.isPublic(m.getModifiers())) {
                face.add(m.getName());
            }
        }
        List<Class<?>> all = new ArrayList<>(List.of(Clockhouse.class.getDeclaredClasses()));
        all.add(Clockhouse.class);
        for (Class<?> one : all) {
            for (Method m : one.getDeclaredMethods()) {
                if (!Modifier.isPublic(m.getModifiers()) && face.contains(m.getName())) {
                    fault(1, "a name of the face: " + m);
                }
            }
        }
        if (!Modifier.isFinal(Clockhouse.class.getModifiers()) || !Clockhouse.class.getPackageName().isEmpty()) {
            fault(1, "the class is not final, or has a package");
        }
    }

    private static void rule2Inside() {
        for (Class<?> inside : Clockhouse.class.getDeclaredClasses()) {
            int is = inside.getModifiers();
            if (!Modifier.isStatic(is) || Modifier.isPublic(is) || Modifier.isProtected(is)) {
                fault(2, "not static, or not hidden: " + inside.getName());
            }
        }
        if (files.size() != Clockhouse.class.getDeclaredClasses().length + 1) {
            fault(2, "a local or anonymous class, or none of them was found");
        }
        eachStep((where, method, step) -> {
            if (step.op() == ClassFile.INVOKEDYNAMIC) {
                fault(2, "a lambda or a method reference, or a text joined by +, in " + where);
            }
        });
    }

    private static void rule3Types() {
        for (ClassFile file : files) {
            for (ClassFile.Member field : file.fields) {
                needType(field.type(), file.name + "." + field.name());
            }
            for (ClassFile.Member method : file.methods) {
                Matcher type = Pattern.compile("\\[*(L[^;]+;|[A-Z])").matcher(method.type());
                while (type.find()) {
                    needType(type.group(), nameOf(file, method));
                }
            }
        }
        for (char sign : source.toCharArray()) {
            if (sign != '\n' && (sign < ' ' || sign > '~')) {
                fault(3, "a sign that is none of 32 to 126: " + (int) sign);
            }
        }
    }

    private static void needType(String type, String where) {
        if (!TYPE.matcher(type).matches()) {
            fault(3, "the type " + type + " of " + where);
        }
    }

    private static void rule4Library() {
        eachStep((where, method, step) -> {
            if (step.isCall() && !isOwn(step.owner()) && !LIBRARY.matcher(nameOf(step)).matches()) {
                fault(4, "calls " + nameOf(step) + " in " + where);
            }
        });
    }

    private static void rule5Statics() {
        for (ClassFile file : files) {
            for (ClassFile.Member field : file.fields) {
                boolean isDue = field.isFinal() && STATIC_TYPE.matcher(field.type()).matches();
                if (field.isStatic() && !isDue) {
                    fault(5, "the static field " + file.name + "." + field.name());
                }
            }
        }
        eachStep((where, method, step) -> {
            if (step.op() == ClassFile.PUTSTATIC) {
                fault(5, "a static field is changed in " + where);
            }
        });
    }

    private static void rule6Exceptions() {
        Matcher thrown = Pattern.compile("\\bthrow\\b[^;]*;").matcher(code);
        while (thrown.find()) {
            if (!thrown.group().matches("throw new (" + EXCEPTIONS + ")\\((\"\")?\\);")) {
                fault(6, thrown.group());
            }
        }
        for (ClassFile file : files) {
            for (ClassFile.Member method : file.methods) {
                if (method.catches()) {
                    fault(6, "catches: " + nameOf(file, method));
                }
                if (method.name().matches("equals|hashCode|toString")) {
                    fault(6, "an own " + method.name());
                }
            }
        }
        eachStep((where, method, step) -> {
            if (step.op() == ClassFile.ATHROW && method.name().equals("<init>")) {
                fault(6, "a constructor throws: " + where);
            }
            if (step.op() == ClassFile.MONITORENTER || step.op() == ClassFile.CHECKCAST) {
                fault(6, "a lock or a cast in " + where);
            }
        });
    }

    /** This class needs no recursion, and has none; so the calls have a depth, which rule 11 bounds. */
    private static void rule8Recursion() {
        for (String method : calls.keySet()) {
            if (depthOf(method, 0) > MOST_DEEP) {
                fault(8, "calls itself, or too deep (rule 11): " + method);
            }
        }
    }

    private static int depthOf(String method, int above) {
        int deepest = 0;
        if (above <= MOST_DEEP) {
            for (String called : calls.getOrDefault(method, Set.of())) {
                deepest = Math.max(deepest, depthOf(called, above + 1));
            }
        }
        return deepest + 1;
    }

    private static void rule9Loops() {
        if (Pattern.compile("\\b(while|do)\\b").matcher(code).find()) {
            fault(9, "a loop that is no for");
        }
        Matcher loop = Pattern.compile("\\bfor \\((.*)\\) \\{").matcher(code);
        int loops = 0;
        while (loop.find()) {
            loops++;
            if (!loop.group(1).matches("int (\\w+) = [^;]*; \\1( \\+ 1| \\* \\1)? (<|<=|>=) [^;]*; \\1(\\+\\+|--)")) {
                fault(9, "its end can't be seen: " + loop.group());
            }
        }
        if (loops != code.split("\\bfor\\b", -1).length - 1) {
            fault(9, "a loop of another form");
        }
    }

    private static void rule10Texts() {
        for (String part : List.of("\"\" \\+", "\\+ \"\"", "\\bassert\\b", "\\bsynchronized\\b", "->", "::", "\\bvar\\b",
                "\\bimport\\b", "\\bpackage\\b", "\\bdouble\\b", "\\bfloat\\b", "\\binstanceof\\b")) {
            if (Pattern.compile(part).matcher(code).find()) {
                fault(10, "not in this class: " + part);
            }
        }
    }

    private static void rule11Sizes() {
        if (files.size() > MOST_CLASSES) {
            fault(11, files.size() + " classes");
        }
        List<Class<?>> all = new ArrayList<>(List.of(Clockhouse.class.getDeclaredClasses()));
        all.add(Clockhouse.class);
        for (Class<?> one : all) {
            int fields = 0;
            for (Field field : one.getDeclaredFields()) {
                fields += Modifier.isStatic(field.getModifiers()) ? 0 : 1;
            }
            if (fields > MOST_FIELDS) {
                fault(11, fields + " fields in " + one.getName());
            }
            for (Method m : one.getDeclaredMethods()) {
                if (m.getParameterCount() > MOST_PARAMETERS) {
                    fault(11, "too many parameters: " + m);
                }
            }
        }
        Matcher method = Pattern.compile("(?m)^( {4}| {8})(?! )[\\w<>\\[\\] ]+\\([^;{]*\\{\n(?:.*\n)*?\\1}").matcher(source);
        int methods = 0;
        while (method.find()) {
            methods++;
            if (method.group().split("\n").length > MOST_LINES) {
                fault(11, "a long method: " + method.group().split("\n")[0].trim());
            }
        }
        // Constructors that nobody wrote stand in the code, not in the text.
        if (methods > calls.size() || methods + files.size() < calls.size()) {
            fault(11, methods + " methods found in the text, " + calls.size() + " in the code");
        }
    }

    /** No call makes an object but the text that it answers, or its exception: all rows are made in constructors. */
    private static void rule12Objects() {
        eachStep((where, method, step) -> {
            boolean makes = step.op() == ClassFile.NEW || step.op() == ClassFile.NEWARRAY
                    || step.op() == ClassFile.ANEWARRAY || step.op() == ClassFile.MULTIANEWARRAY;
            boolean thrown = step.owner().matches("java/(lang|util)/(" + EXCEPTIONS + ")");
            if (makes && !thrown && !method.name().equals("<init>")) {
                fault(12, "makes " + step.owner() + " in " + where);
            }
        });
    }
}
