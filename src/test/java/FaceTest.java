import java.io.IOException;
import java.lang.reflect.Constructor;
import java.lang.reflect.Executable;
import java.lang.reflect.Field;
import java.lang.reflect.Method;
import java.lang.reflect.Modifier;
import java.nio.file.Files;
import java.nio.file.Path;
import java.util.Arrays;
import java.util.Set;
import java.util.TreeSet;
import java.util.regex.Matcher;
import java.util.regex.Pattern;

/** The face, member by member, and those rules of LANGUAGE.md that can be seen from outside. */
final class FaceTest {
    private static final Check CHECK = new Check("FaceTest");
    private static final String SOURCE = "src/main/java/PartitionKernel.java";
    private static final String I = "IndexOutOfBoundsException";
    private static final String A = "IllegalArgumentException";
    private static final String S = "IllegalStateException";
    private static final String[] FACE = {
        "void window(int, int) " + I + " " + A + " " + S,
        "int process(int, int, int, int, int) " + I + " " + A + " " + S,
        "int channel(boolean, int, int, int) " + I + " " + A + " " + S,
        "void action(int, int, int) " + I + " " + A,
        "void poke(int, int, int) " + I,
        "void begin() " + S,
        "int run(int) " + A + " " + S,
        "int peek(int, int)",
        "int register(int, int, int)",
        "int state(int, int, int)",
        "int partition(int, int)",
        "int traffic(int, int)",
        "int word(int, int)",
        "int error(int, int)",
        "int about(int)",
    };

    public static void main(String[] args) throws IOException {
        theClass();
        members();
        innerClasses();
        source();
        CHECK.finish();
    }

    private static void theClass() {
        int modifiers = PartitionKernel.class.getModifiers();
        CHECK.same("public final", Modifier.isPublic(modifiers) && Modifier.isFinal(modifiers) ? 1 : 0, 1);
        CHECK.same("no package", PartitionKernel.class.getPackageName(), "");
        Constructor<?>[] constructors = PartitionKernel.class.getDeclaredConstructors();
        CHECK.same("constructors", constructors.length, 1);
        CHECK.same("its parameters", constructors[0].getParameterCount(), 0);
        CHECK.same("public", Modifier.isPublic(constructors[0].getModifiers()) ? 1 : 0, 1);
    }

    private static String names(Class<?>[] types, String between) {
        return String.join(between, Arrays.stream(types).map(Class::getSimpleName).toList());
    }

    private static void members() {
        Set<String> face = new TreeSet<>();
        Set<String> publicNames = new TreeSet<>();
        for (Method m : PartitionKernel.class.getDeclaredMethods()) {
            if (!Modifier.isPrivate(m.getModifiers())) {
                CHECK.same(m + " is public", Modifier.isPublic(m.getModifiers()) ? 1 : 0, 1);
                CHECK.same(m + " is no static one", Modifier.isStatic(m.getModifiers()) ? 1 : 0, 0);
                String line = m.getReturnType().getSimpleName() + " " + m.getName() + "("
                    + names(m.getParameterTypes(), ", ") + ") " + names(m.getExceptionTypes(), " ");
                face.add(line.trim());
                publicNames.add(m.getName());
            }
        }
        CHECK.same("the face", face.toString(), new TreeSet<>(Arrays.asList(FACE)).toString());
        for (Method m : PartitionKernel.class.getDeclaredMethods()) {
            if (Modifier.isPrivate(m.getModifiers())) {
                CHECK.same(m + " bears a public name", publicNames.contains(m.getName()) ? 1 : 0, 0);
            }
        }
        for (Field f : PartitionKernel.class.getDeclaredFields()) {
            boolean open = !Modifier.isPrivate(f.getModifiers());
            CHECK.same(f + " is open", open ? 1 : 0, f.getName().equals("NONE") ? 1 : 0);
            if (open) {
                CHECK.same("the constant", Modifier.toString(f.getModifiers()), "public static final");
            }
        }
        fields(PartitionKernel.class);
        parameters(PartitionKernel.class);
    }

    private static void fields(Class<?> type) {
        int own = 0;
        for (Field f : type.getDeclaredFields()) {
            if (Modifier.isStatic(f.getModifiers())) {
                CHECK.same(f + " is final", Modifier.isFinal(f.getModifiers()) ? 1 : 0, 1);
            } else {
                own++;
            }
        }
        CHECK.same(type + " has twenty fields at most", own <= 20 ? 1 : 0, 1);
    }

    private static void parameters(Class<?> type) {
        for (Executable m : type.getDeclaredMethods()) {
            CHECK.same(m + " has seven parameters at most", m.getParameterCount() <= 7 ? 1 : 0, 1);
        }
    }

    private static void innerClasses() {
        Class<?>[] inner = PartitionKernel.class.getDeclaredClasses();
        CHECK.same("twelve classes at most", inner.length < 12 ? 1 : 0, 1);
        for (Class<?> type : inner) {
            int modifiers = type.getModifiers();
            CHECK.same(type + " is static", Modifier.isStatic(modifiers) ? 1 : 0, 1);
            CHECK.same(type + " is not open", Modifier.isPublic(modifiers) || Modifier.isProtected(modifiers) ? 1 : 0, 0);
            fields(type);
            parameters(type);
        }
    }

    private static void source() throws IOException {
        String text = Files.readString(Path.of(SOURCE));
        for (char c : text.toCharArray()) {
            CHECK.same("characters 0 to 255", c <= 255 ? 1 : 0, 1);
        }
        String bare = text.replaceAll("(?s)/\\*.*?\\*/", "").replaceAll("//.*", "").replaceAll("\"[^\"\\n]*\"", "T");
        String[] words = {"package", "import", "try", "catch", "finally", "assert", "synchronized", "var", "throws\\s+\\w*Error",
            "java", "System", "Object", "double", "float", "static\\s*\\{"};
        for (String word : words) {
            Matcher m = Pattern.compile("(?<!\\w)" + word + "(?!\\w)").matcher(bare);
            CHECK.same("the source says " + word, m.find() ? 1 : 0, 0);
        }
        CHECK.same("no lambda, no method reference", bare.contains("->") || bare.contains("::") ? 1 : 0, 0);
        Matcher thrown = Pattern.compile("throw new (\\w+)\\((T?)\\);").matcher(bare);
        int count = 0;
        while (thrown.find()) {
            count++;
            CHECK.same(thrown.group(1), Set.of(I, A, S).contains(thrown.group(1)) ? 1 : 0, 1);
        }
        CHECK.same("every throw is of this form", bare.split("throw ", -1).length - 1, count);
        methodLengths(text);
    }

    private static void methodLengths(String text) {
        int start = -1;
        String indent = "";
        String[] lines = text.split("\n");
        for (int n = 0; n < lines.length; n++) {
            Matcher opens = Pattern.compile("^( {4}| {8})\\S.*\\).*\\{$").matcher(lines[n]);
            if (opens.matches() && start < 0 && !lines[n].contains("class ")) {
                start = n;
                indent = opens.group(1);
            } else if (start >= 0 && lines[n].equals(indent + "}")) {
                CHECK.same("short method at line " + (start + 1), n - start < 60 ? 1 : 0, 1);
                start = -1;
            }
        }
    }

    private FaceTest() {
    }
}
