import java.io.IOException;
import java.lang.reflect.Constructor;
import java.lang.reflect.Field;
import java.lang.reflect.Method;
import java.lang.reflect.Modifier;
import java.nio.file.Files;
import java.nio.file.Path;
import java.util.ArrayList;
import java.util.List;
import java.util.Set;
import java.util.TreeSet;
import java.util.regex.Matcher;
import java.util.regex.Pattern;

/** What can be seen of ../shared/LANGUAGE.md from the source and from the compiled class. */
public final class MannersTest {
    private static final Set<String> FACE = new TreeSet<>(List.of("type", "typeMore", "erase", "enter", "label", "run", "reason", "rows",
            "columns", "isKnown", "cell", "begin", "end", "giveUp", "isOpen", "tables", "seen", "audit", "isAbove", "joined",
            "checksum", "isSound", "veilShare", "meanLevel"));
    private static final String[] BARRED = {"->", "::", "finally", "synchronized", "\\bassert\\b", "\\btry\\b", "\\bcatch\\b", "\\bvar\\b",
        "Exact\\(", "instanceof", "hashCode", "\\bequals\\(", "toString", "System\\.(?!arraycopy)", "\\bgoto\\b", "\\+ \"", "\" \\+",
        "getClass", "\\bNaN\\b", "\\brecord\\b", "Iterator", "for \\([^;)]+:[^;)]+\\)"};
    private static int wrong;

    private static void must(boolean is, String what) {
        if (!is) {
            wrong++;
            System.out.println("MannersTest: " + what);
        }
    }

    private static void face() {
        Set<String> found = new TreeSet<>();
        for (Method m : Levelhouse.class.getDeclaredMethods()) {
            boolean isPublic = Modifier.isPublic(m.getModifiers());
            must(isPublic || Modifier.isPrivate(m.getModifiers()) || m.isSynthetic(), m + " is neither public nor private");
            must(isPublic == FACE.contains(m.getName()) || m.isSynthetic(), m + " has the wrong name for what it is");
            if (isPublic) {
                found.add(m.getName());
            }
        }
        must(found.equals(FACE), "the face has " + found);
        for (Field f : Levelhouse.class.getDeclaredFields()) {
            must(Modifier.isPrivate(f.getModifiers()) || f.isSynthetic(), f + " is not private");
        }
        Constructor<?>[] makers = Levelhouse.class.getDeclaredConstructors();
        must(makers.length == 1 && Modifier.isPublic(makers[0].getModifiers()), "there is another constructor");
        must(Modifier.isFinal(Levelhouse.class.getModifiers()), "the class is not final");
        int classes = 0;
        for (Class<?> inner : Levelhouse.class.getDeclaredClasses()) {
            classes++;
            int fields = 0;
            for (Field f : inner.getDeclaredFields()) {
                boolean isStatic = Modifier.isStatic(f.getModifiers());
                must(!isStatic || inner.isEnum(), f + " is static");
                fields += isStatic ? 0 : 1;
            }
            must(fields <= 20, inner + " has " + fields + " fields");
            for (Method m : inner.getDeclaredMethods()) {
                must(m.getParameterCount() <= 7, m + " takes too many");
                must(!FACE.contains(m.getName()), m + " bears a name of the face");
            }
        }
        must(classes <= 12, "there are " + classes + " classes inside");
    }

    private static void source(List<String> lines) {
        int start = -1;
        List<String> imports = new ArrayList<>();
        for (int i = 0; i < lines.size(); i++) {
            String line = lines.get(i);
            String code = line.replaceAll("//.*|^\\s*/?\\*.*|/\\*\\*.*\\*/", "");
            if (code.startsWith("import ")) {
                imports.add(code);
            }
            for (String barred : BARRED) {
                Matcher m = Pattern.compile(barred).matcher(code);
                must(!m.find(), "line " + (i + 1) + " has " + barred);
            }
            must(line.length() <= 120, "line " + (i + 1) + " is long");
            must(line.chars().allMatch(c -> c >= 32 && c < 127), "line " + (i + 1) + " has another sign");
            if (code.matches("( {4}| {8})[a-zA-Z].*[({]") && !code.matches(".*\\b(class|enum|if|for|while|switch|do)\\b.*")) {
                start = i;
            }
            if (code.matches(" {4}}| {8}}") && start >= 0) {
                must(i - start < 60, "the method at line " + (start + 1) + " has " + (i - start + 1) + " lines");
                start = -1;
            }
        }
        must(imports.equals(List.of("import java.util.ArrayList;", "import java.util.NoSuchElementException;")), "imports " + imports);
    }

    public static void main(String[] args) throws IOException {
        face();
        source(Files.readAllLines(Path.of("src/main/java/Levelhouse.java")));
        System.out.println("MannersTest: " + wrong + " things against the rules");
        if (wrong != 0) {
            System.exit(1);
        }
    }
}
