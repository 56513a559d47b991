import java.io.IOException;
import java.lang.reflect.Constructor;
import java.lang.reflect.Field;
import java.lang.reflect.Method;
import java.lang.reflect.Modifier;
import java.nio.file.Files;
import java.nio.file.Path;
import java.util.Arrays;
import java.util.List;
import java.util.Set;
import java.util.TreeSet;
import java.util.regex.Matcher;
import java.util.regex.Pattern;

/** The public face of ../shared/DOC.md, no more and no less, and what of ../shared/LANGUAGE.md a text shows. */
public final class FaceTests {
    private static final List<String> METHODS = List.of("sheet(int)", "fold(int, int, int, boolean)", "unfold()",
        "facet(int, int)", "at(int, int, int, int)", "places()", "deepest()", "reach(int)", "folds()",
        "crease(int, int)", "neighbour(int, int)", "creases(boolean)", "balance(int, int, boolean)",
        "degree(int, int, boolean)", "knife(int)", "thickness(int, int)", "would(int, int, int)",
        "cut(int, int, int)", "pieces(boolean)", "holes()", "rims(boolean)", "piece(int)", "mark(int, boolean)",
        "markCell(int, int, boolean)", "take()", "same()", "mirror(int, int)", "mirrors()", "fewest(int)",
        "way(int, int)", "ways(int)", "count(int)");
    private static final List<String> CONSTANTS = List.of("UNKNOWN", "BAD", "STATE", "FULL", "SPENT", "NONE");
    private static final List<String> FORBIDDEN = List.of("throw", "throws", "try", "catch", "synchronized",
        "assert", "protected", "package", "Object", "Random", "Thread", "hashCode", "nanoTime", "currentTimeMillis");
    private static final List<String> IMPORTED = List.of("java.util.Arrays", "java.util.ArrayList", "java.util.List",
        "java.util.Iterator");

    private static int wrong = 0;

    public static void main(String[] args) throws IOException {
        face();
        inside();
        text(Path.of(args.length > 0 ? args[0] : "src/main/java/OneSnip.java"));
        if (wrong != 0) {
            System.exit(1);
        }
    }

    private static void holds(String rule, boolean is) {
        if (!is) {
            wrong++;
            System.out.println("does not hold: " + rule);
        }
    }

    private static void face() {
        holds("the class is public and final", OneSnip.class.getModifiers() == (Modifier.PUBLIC | Modifier.FINAL));
        Set<String> found = new TreeSet<>();
        Set<String> privates = new TreeSet<>();
        for (Method method : OneSnip.class.getDeclaredMethods()) {
            if (Modifier.isPrivate(method.getModifiers())) {
                privates.add(method.getName());
            } else {
                String types = Arrays.toString(method.getParameterTypes());
                found.add(method.getName() + "(" + types.substring(1, types.length() - 1) + ")");
                holds(method + " is public, answers an int", method.getReturnType() == int.class
                    && method.getModifiers() == Modifier.PUBLIC);
            }
        }
        holds("just the document's methods: " + found, found.equals(new TreeSet<>(METHODS)));
        for (String method : METHODS) {
            String name = method.substring(0, method.indexOf('('));
            holds("no private method is called " + name, !privates.contains(name));
        }
        Set<String> constants = new TreeSet<>();
        for (Field field : OneSnip.class.getDeclaredFields()) {
            if (!Modifier.isPrivate(field.getModifiers())) {
                constants.add(field.getName());
                holds(field + " is a constant", field.getType() == int.class
                    && field.getModifiers() == (Modifier.PUBLIC | Modifier.STATIC | Modifier.FINAL));
            }
        }
        holds("just the document's constants: " + constants, constants.equals(new TreeSet<>(CONSTANTS)));
        Constructor<?>[] made = OneSnip.class.getDeclaredConstructors();
        holds("one public constructor", made.length == 1 && made[0].getParameterCount() == 0
            && made[0].getModifiers() == Modifier.PUBLIC);
    }

    private static void inside() {
        holds("twelve classes at most", OneSnip.class.getDeclaredClasses().length < 12);
        for (Class<?> type : OneSnip.class.getDeclaredClasses()) {
            int modifiers = type.getModifiers();
            holds(type + " is private or package-visible and static", Modifier.isStatic(modifiers)
                && !Modifier.isPublic(modifiers) && !Modifier.isProtected(modifiers));
            int fields = 0;
            for (Field field : type.getDeclaredFields()) {
                boolean isStatic = Modifier.isStatic(field.getModifiers());
                holds(field + " is no static state", !isStatic || Modifier.isFinal(field.getModifiers()));
                fields += isStatic ? 0 : 1;
            }
            holds(type + " has twenty fields at most", fields <= 20);
            for (Method method : type.getDeclaredMethods()) {
                holds(method + " takes seven parameters at most", method.getParameterCount() <= 7);
            }
        }
    }

    private static void text(Path file) throws IOException {
        List<String> lines = Files.readAllLines(file);
        String text = String.join("\n", lines);
        String code = text.replaceAll("(?s)/\\*.*?\\*/", "").replaceAll("//[^\n]*", "");
        for (String word : FORBIDDEN) {
            holds("no " + word, !Pattern.compile("\\b" + word + "\\b").matcher(code).find());
        }
        holds("no method reference", !code.contains("::"));
        holds("no lambda", !Pattern.compile("(?m)^(?!\\s*(case|default)\\b).*->").matcher(code).find());
        Matcher imports = Pattern.compile("import ([^;]+);").matcher(code);
        while (imports.find()) {
            holds("import " + imports.group(1), IMPORTED.contains(imports.group(1)));
        }
        if (code.contains("class Rows")) {
            guarded(code);
        }
        lengths(lines);
    }

    /** The class looks at each index in Rows.get and Rows.put, and divides by nothing: as long as it is made so. */
    private static void guarded(String code) {
        int bare = 0;
        for (String line : code.split("\n")) {
            if (line.matches(".*\\w\\[[^\\]]+\\].*") && !line.contains("new int[")) {
                bare++;
            }
        }
        holds("an index stands in Rows.get and Rows.put alone", bare == 2);
        holds("no division", !code.contains("/") && !code.contains("%"));
    }

    private static void lengths(List<String> lines) {
        int begun = 0;
        for (int i = 0; i < lines.size(); i++) {
            if (lines.get(i).matches(" {4}( {4})?(public|private|static|int|void|boolean)[^;=]*\\) \\{")) {
                begun = i;
            }
            if (lines.get(i).matches(" {4}( {4})?\\}")) {
                holds("a method of sixty lines at most ends in line " + (i + 1), begun == 0 || i - begun <= 60);
                begun = 0;
            }
        }
    }
}
