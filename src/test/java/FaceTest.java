import java.io.IOException;
import java.lang.reflect.Constructor;
import java.lang.reflect.Field;
import java.lang.reflect.Member;
import java.lang.reflect.Method;
import java.lang.reflect.Modifier;
import java.nio.file.Files;
import java.nio.file.Path;
import java.util.ArrayList;
import java.util.Arrays;
import java.util.List;
import java.util.Set;
import java.util.TreeSet;
import java.util.regex.Matcher;
import java.util.regex.Pattern;

/**
 * The public face is the document's, and the source keeps to what LANGUAGE.md allows, as far as
 * this can be seen from its words. It is run from the project's root.
 */
public final class FaceTest {
    private static final Check CHECK = new Check("FaceTest");
    private static final Path SOURCE = Path.of("src", "main", "java", "LostZeros.java");

    /** Each public method with what it returns and how many ints it is given. */
    private static final String[] METHODS = {
        "int tape 0", "int drop 1", "int shift 2", "int cut 2", "int glue 2", "int read 3",
        "int lose 2", "int append 1", "int clear 0", "int fault 0", "int take 0", "int why 1",
        "int sign 2", "int reading 2", "int difference 3", "int follows 2", "int zeros 2",
        "int whyNot 3", "int holding 1", "int point 2", "int tapeOf 2", "int count 1",
        "double known 0", "int ifRead 2", "int bestReading 0", "int undo 0", "int save 0",
        "int restore 0"
    };
    private static final String[] CONSTANTS = {
        "INVALID_ARGUMENT", "LIMIT_REACHED", "NOT_FOUND", "NOT_POSSIBLE"
    };
    private static final String[] NOT_ALLOWED = {
        "import", "package", "catch", "try", "throw", "finally", "throws", "synchronized", "assert",
        "instanceof", "transient", "volatile", "native", "Object", "Arrays", "System", "Thread"
    };

    public static void main(String[] args) throws IOException {
        faceMethods();
        faceFieldsAndConstructors();
        namesInside();
        fieldsInside();
        String source = Files.readString(SOURCE);
        wordsOf(source);
        newOnlyForFields(source);
        CHECK.end();
    }

    private static boolean isPrivate(Member member) {
        return Modifier.isPrivate(member.getModifiers());
    }

    private static void faceMethods() {
        Set<String> got = new TreeSet<>();
        for (Method method : LostZeros.class.getDeclaredMethods()) {
            if (!isPrivate(method) && !method.isSynthetic()) {
                got.add(method.getReturnType() + " " + method.getName() + " " + method.getParameterCount());
                CHECK.dueTrue(method.getName() + " is public", Modifier.isPublic(method.getModifiers()));
                CHECK.due(method.getName() + " is static", method.getModifiers() & Modifier.STATIC, 0);
                for (Class<?> type : method.getParameterTypes()) {
                    CHECK.dueTrue(method.getName() + " is given ints", type == int.class);
                }
            }
        }
        CHECK.dueText("the methods", got.toString(), new TreeSet<>(Arrays.asList(METHODS)).toString());
        CHECK.dueTrue("the class is final", Modifier.isFinal(LostZeros.class.getModifiers()));
        CHECK.dueTrue("the class is public", Modifier.isPublic(LostZeros.class.getModifiers()));
    }

    private static void faceFieldsAndConstructors() {
        Set<String> got = new TreeSet<>();
        for (Field field : LostZeros.class.getDeclaredFields()) {
            if (!isPrivate(field)) {
                got.add(field.getName());
                CHECK.dueTrue(field.getName() + " is a constant", field.getType() == int.class
                        && field.getModifiers() == (Modifier.PUBLIC | Modifier.STATIC | Modifier.FINAL));
            }
        }
        CHECK.dueText("the constants", got.toString(), Arrays.toString(CONSTANTS));
        Constructor<?>[] constructors = LostZeros.class.getDeclaredConstructors();
        CHECK.due("constructors", constructors.length, 1);
        CHECK.due("what it is given", constructors[0].getParameterCount(), 0);
        CHECK.dueTrue("it is public", Modifier.isPublic(constructors[0].getModifiers()));
    }

    /** Rule 1: no private method bears the name of a public one; here in the classes inside, too. */
    private static void namesInside() {
        Set<String> face = new TreeSet<>();
        for (String method : METHODS) {
            face.add(method.split(" ")[1]);
        }
        List<Method> inside = new ArrayList<>();
        for (Method method : LostZeros.class.getDeclaredMethods()) {
            if (isPrivate(method)) {
                inside.add(method);
            }
        }
        for (Class<?> nested : LostZeros.class.getDeclaredClasses()) {
            CHECK.dueTrue(nested.getName() + " is static", Modifier.isStatic(nested.getModifiers()));
            inside.addAll(Arrays.asList(nested.getDeclaredMethods()));
        }
        for (Method method : inside) {
            CHECK.dueTrue(method + " has a name of its own", !face.contains(method.getName()));
            CHECK.dueTrue(method + " takes at most seven", method.getParameterCount() <= 7);
        }
    }

    /** Rules 5 and 11: static fields are constants, and a class has some twenty others at most. */
    private static void fieldsInside() {
        List<Class<?>> classes = new ArrayList<>(Arrays.asList(LostZeros.class.getDeclaredClasses()));
        classes.add(LostZeros.class);
        CHECK.dueTrue("at most twelve classes", classes.size() <= 12);
        for (Class<?> each : classes) {
            int fields = 0;
            for (Field field : each.getDeclaredFields()) {
                if (Modifier.isStatic(field.getModifiers())) {
                    CHECK.dueTrue(field + " is final", Modifier.isFinal(field.getModifiers()));
                    CHECK.dueTrue(field + " is a number", field.getType() == int.class);
                } else {
                    fields++;
                }
            }
            CHECK.dueTrue(each.getName() + " has at most twenty fields", fields <= 20);
        }
    }

    private static void wordsOf(String source) {
        String code = source.replaceAll("(?s)/\\*.*?\\*/", "").replaceAll("//[^\n]*", "");
        for (String word : NOT_ALLOWED) {
            CHECK.dueTrue("the source without " + word, !Pattern.compile("\\b" + word + "\\b").matcher(code).find());
        }
        CHECK.dueTrue("the source without a lambda", !code.contains("->"));
        CHECK.dueTrue("the source without a method reference", !code.contains("::"));
        CHECK.dueTrue("the source has no texts", !code.contains("\""));
        CHECK.dueTrue("the source has plain signs only", source.chars().allMatch(sign -> sign < 127));
    }

    /** What a call makes is counted in the one room; so all is made with the object, none later. */
    private static void newOnlyForFields(String source) {
        Matcher matcher = Pattern.compile("(?m)^.*\\bnew\\b.*$").matcher(
                source.replaceAll("(?s)/\\*.*?\\*/", "").replaceAll("//[^\n]*", ""));
        while (matcher.find()) {
            String line = matcher.group().trim();
            boolean field = line.startsWith("private final ") || line.startsWith("final ");
            CHECK.dueTrue("made with the object: " + line,
                    field || line.equals("signs = new int[room > 0 ? room : 0];"));
        }
    }
}
