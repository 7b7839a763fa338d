import java.io.IOException;
import java.lang.reflect.Constructor;
import java.lang.reflect.Field;
import java.lang.reflect.Method;
import java.lang.reflect.Modifier;
import java.nio.charset.StandardCharsets;
import java.nio.file.Files;
import java.nio.file.Path;
import java.util.ArrayList;
import java.util.List;
import java.util.Set;
import java.util.TreeSet;
import java.util.regex.Matcher;
import java.util.regex.Pattern;

/** The face is the document's and no more, and the source keeps to what of LANGUAGE.md can be seen from outside. */
public final class FaceTest {
    private static final Path DOC = Path.of("../shared/DOC.md");
    private static final Path SOURCE = Path.of("src/main/java/SendTheBox.java");
    private static final String[] NEVER = {"package ", "import ", "->", "::", "synchronized", "assert ", "finally",
        "throw ", "catch ", "static {", "instanceof", "record ", "Exact(", "hashCode", "toString", "double", "float",
        "Object", "List", "Integer.", "Long.", "null)."};

    public static void main(String[] args) throws IOException {
        face();
        classes();
        source();
        Check.finish();
    }

    private static void face() throws IOException {
        Set<String> want = new TreeSet<>();
        Matcher m = Pattern.compile("    public (int|long) (\\w+)\\((.*?)\\);").matcher(Files.readString(DOC));
        while (m.find()) {
            want.add(m.group(1) + " " + m.group(2) + "(" + m.group(3).replaceAll(" \\w+(,|$)", "$1") + ")");
        }
        Set<String> got = new TreeSet<>();
        for (Method method : SendTheBox.class.getDeclaredMethods()) {
            if (!Modifier.isPrivate(method.getModifiers())) {
                StringBuilder b = new StringBuilder();
                for (Class<?> type : method.getParameterTypes()) {
                    b.append(b.length() == 0 ? "" : ", ").append(type);
                }
                got.add(method.getReturnType() + " " + method.getName() + "(" + b + ")");
            }
        }
        Check.due("methods of the face", want.size(), 47);
        Check.dueText("methods", got.toString(), want.toString());
        Check.due("final", Modifier.isFinal(SendTheBox.class.getModifiers()) ? 1 : 0, 1);
        Constructor<?>[] constructors = SendTheBox.class.getDeclaredConstructors();
        Check.due("constructors", constructors.length, 1);
        Check.due("its parameters", constructors[0].getParameterCount(), 0);
        for (Field f : SendTheBox.class.getDeclaredFields()) {
            boolean open = !Modifier.isPrivate(f.getModifiers());
            Check.due("open field " + f.getName(), open ? 1 : 0, f.getName().equals("NONE") ? 1 : 0);
        }
    }

    private static void classes() {
        Set<String> open = new TreeSet<>();
        for (Method method : SendTheBox.class.getDeclaredMethods()) {
            if (Modifier.isPublic(method.getModifiers())) {
                open.add(method.getName());
            }
        }
        List<Class<?>> all = new ArrayList<>(List.of(SendTheBox.class.getDeclaredClasses()));
        Check.due("at most twelve classes", all.size() < 12 ? 1 : 0, 1);
        all.add(SendTheBox.class);
        for (Class<?> c : all) {
            int fields = 0;
            for (Field f : c.getDeclaredFields()) {
                boolean constant = Modifier.isStatic(f.getModifiers());
                Check.due(f + " is no static state", constant && !Modifier.isFinal(f.getModifiers()) ? 1 : 0, 0);
                fields += constant ? 0 : 1;
            }
            Check.due(c + " has at most twenty fields", fields <= 20 ? 1 : 0, 1);
            for (Method method : c.getDeclaredMethods()) {
                Check.due(method + " has at most seven parameters", method.getParameterCount() <= 7 ? 1 : 0, 1);
                boolean isOpen = Modifier.isPublic(method.getModifiers());
                Check.due(method + " bears no public one's name", !isOpen && open.contains(method.getName()) ? 1 : 0, 0);
            }
        }
    }

    private static void source() throws IOException {
        String text = Files.readString(SOURCE, StandardCharsets.ISO_8859_1);
        for (char c : text.toCharArray()) {
            if (c > 126 || c < 32 && c != '\n') {
                Check.due("a sign of the source", c, ' ');
            }
        }
        String code = text.replaceAll("(?s)/\\*.*?\\*/", "").replaceAll("//.*", "");
        for (String never : NEVER) {
            Check.due("'" + never + "' in the source", code.indexOf(never), -1);
        }
        String onlyArraycopy = code.replace("System.arraycopy", "");
        Check.due("'System' in the source", onlyArraycopy.indexOf("System"), -1);
        int began = 0;
        String[] lines = text.split("\n");
        for (int i = 0; i < lines.length; i++) {
            if (lines[i].matches(" {4}( {4})?(public |private |static )*[\\w\\[\\]<>]+ \\w+\\(.*\\) \\{")) {
                began = i;
            }
            if (lines[i].matches(" {4}( {4})?\\}")) {
                Check.due("line " + began + " begins a method that is too long", i - began > 60 && began > 0 ? i - began : 0, 0);
                began = 0;
            }
        }
    }
}
