import java.io.IOException;
import java.lang.reflect.Constructor;
import java.lang.reflect.Field;
import java.lang.reflect.Method;
import java.lang.reflect.Modifier;
import java.nio.charset.StandardCharsets;
import java.nio.file.Files;
import java.nio.file.Path;
import java.util.ArrayList;
import java.util.List;
import java.util.TreeSet;
import java.util.regex.Matcher;
import java.util.regex.Pattern;

/** What a machine can see of LANGUAGE.md in the source and in the compiled class, and the face of the document. */
public final class LanguageTest {
    private static final Path SOURCE = Path.of("src/main/java/HookOver.java");
    private static final Path DOCUMENT = Path.of("../shared/DOC.md");
    private static final Pattern METHOD = Pattern.compile(
        "^ {4,8}(?:(?:public|private|static|final) )*(?:[\\w\\[\\]]+ )?(\\w+)\\(([^()]*)\\) \\{$");
    private static int wrong = 0;

    private static void check(boolean good, String what) {
        if (!good) {
            wrong++;
            System.out.println(what);
        }
    }

    private static String bare(String source) {
        return source.replaceAll("(?s)/\\*.*?\\*/", "").replaceAll("//[^\n]*", "")
            .replaceAll("\"[^\"\n]*\"", "TEXT").replaceAll("'[^'\n]+'", "SIGN");
    }

    private static void words(String code) {
        String[] refused = {"\\bthrows?\\b", "\\btry\\b", "\\bcatch\\b", "\\bfinally\\b", "\\bsynchronized\\b",
            "\\bassert\\b", "->", "::", "\\bSystem\\.(?!arraycopy\\b)", "Exact\\b", "MAX_VALUE", "MIN_VALUE",
            "TEXT *\\+", "\\+ *TEXT", "\\bwhile \\(true\\)", "for \\(;;", "\\bprotected\\b", "\\bpackage\\b",
            "\\bdouble\\b", "\\bfloat\\b", "\\bstatic \\{", "\\bvar\\b", "@"};
        for (String pattern : refused) {
            Matcher m = Pattern.compile(pattern).matcher(code);
            check(!m.find(), "the source has " + pattern);
        }
        Matcher imports = Pattern.compile("import [^;]*;").matcher(code);
        while (imports.find()) {
            check(imports.group().equals("import java.util.Arrays;"), imports.group());
        }
        Matcher library = Pattern.compile("\\b(Arrays|Math|Integer|Long)\\.(\\w+)").matcher(code);
        while (library.find()) {
            check(List.of("fill", "max", "min", "abs", "floorMod", "bitCount").contains(library.group(2)),
                library.group());
        }
    }

    /** Methods: how long, how many parameters, and that only constructors make objects. */
    private static void methods(String code) {
        String[] lines = code.split("\n", -1);
        TreeSet<String> classes = new TreeSet<>();
        Matcher m = Pattern.compile("\\bclass (\\w+)").matcher(code);
        while (m.find()) {
            classes.add(m.group(1));
        }
        check(classes.size() <= 12, "there are " + classes.size() + " classes");
        String name = "";
        int from = 0;
        for (int i = 0; i < lines.length; i++) {
            Matcher head = METHOD.matcher(lines[i]);
            if (head.matches()) {
                name = head.group(1);
                from = i;
                check(head.group(2).split(",").length <= 7, name + " has too many parameters");
            }
            check(i - from <= 60 || !lines[i].matches(" {12,}.*"), name + " is long (line " + (i + 1) + ")");
            check(!lines[i].contains("new ") || classes.contains(name), name + " makes an object");
            check(lines[i].length() <= 120, "line " + (i + 1) + " is long");
        }
    }

    /** Rules 4, 8 and 11: what of the library is called, what calls itself, how deep the calls go. */
    private static void calls() throws IOException {
        CallGraph graph = new CallGraph(SOURCE);
        List<String> listed = List.of("Arrays.fill(int[],int)", "Arrays.fill(long[],long)", "Integer.bitCount(int)",
            "Math.abs(int)", "Math.floorMod(int,int)", "Math.max(int,int)", "Math.max(long,long)", "Math.min(int,int)",
            "Math.min(long,long)", "Object.Object()", "String.charAt(int)", "String.indexOf(int)", "String.length()",
            "System.arraycopy(java.lang.Object,int,java.lang.Object,int,int)");
        for (String name : graph.outside()) {
            check(listed.contains(name), "of the library " + name + " is called");
        }
        check(graph.methods().size() > 100, "only " + graph.methods().size() + " methods were found");
        for (String name : graph.methods()) {
            List<String> row = graph.longestFrom(name);
            check(row.size() <= 8, row.size() + " calls deep: " + row);
        }
        for (String name : graph.recursive()) {
            check(name.matches("Law\\.read(Part|Unit|Atom)\\(.*,int\\)"), name + " comes to call itself");
        }
    }

    private static void face() throws IOException {
        String doc = Files.readString(DOCUMENT, StandardCharsets.ISO_8859_1);
        String block = doc.substring(doc.indexOf("public final class HookOver {"), doc.indexOf("## Terms"));
        List<String> due = new ArrayList<>();
        Matcher m = Pattern.compile("public (int|long) (\\w+)\\(([^)]*)\\);").matcher(block);
        while (m.find()) {
            due.add(m.group(1) + " " + m.group(2) + "(" + m.group(3).replaceAll(" \\w+(,|$)", "$1") + ")");
        }
        check(due.size() == 36, "the document's face has " + due.size() + " methods");
        TreeSet<String> open = new TreeSet<>();
        TreeSet<String> hidden = new TreeSet<>();
        for (Method method : HookOver.class.getDeclaredMethods()) {
            if (Modifier.isPublic(method.getModifiers())) {
                String types = method.toGenericString().replaceAll(".*\\(", "(").replace(",", ", ");
                check(due.contains(method.getReturnType() + " " + method.getName() + types), "not due: " + method);
                open.add(method.getName());
            } else {
                check(Modifier.isPrivate(method.getModifiers()), "not private: " + method);
                hidden.add(method.getName());
            }
        }
        check(open.size() == due.size(), "the face has " + open.size() + " methods");
        for (Class<?> inner : HookOver.class.getDeclaredClasses()) {
            check(Modifier.isStatic(inner.getModifiers()), inner + " isn't static");
            for (Method method : inner.getDeclaredMethods()) {
                hidden.add(method.getName());
            }
            fields(inner);
        }
        hidden.retainAll(open);
        check(hidden.isEmpty(), "names of public methods are used again: " + hidden);
        fields(HookOver.class);
        for (Constructor<?> c : HookOver.class.getDeclaredConstructors()) {
            check(Modifier.isPublic(c.getModifiers()) && c.getParameterCount() == 0, "constructor " + c);
        }
    }

    private static void fields(Class<?> of) {
        int own = 0;
        for (Field field : of.getDeclaredFields()) {
            if (Modifier.isStatic(field.getModifiers())) {
                check(Modifier.isFinal(field.getModifiers()), "not final: " + field);
            } else {
                own++;
            }
            boolean isNone = field.getName().equals("NONE");
            if (of == HookOver.class) {
                check(Modifier.isPrivate(field.getModifiers()) || isNone, "not private: " + field);
            }
        }
        check(own <= 20, of + " has " + own + " fields");
    }

    public static void main(String[] args) throws IOException {
        String source = Files.readString(SOURCE, StandardCharsets.ISO_8859_1);
        check(source.chars().allMatch(c -> c == 10 || c >= 32 && c < 127), "the source has other signs");
        String code = bare(source);
        words(code);
        methods(code);
        calls();
        face();
        System.out.println(wrong == 0 ? "the source keeps to the rules" : wrong + " rules are broken");
        if (wrong != 0) {
            System.exit(1);
        }
    }
}
