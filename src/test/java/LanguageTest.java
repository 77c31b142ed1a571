import java.io.IOException;
import java.lang.reflect.Constructor;
import java.lang.reflect.Field;
import java.lang.reflect.Method;
import java.lang.reflect.Modifier;
import java.nio.file.Files;
import java.nio.file.Path;
import java.util.ArrayList;
import java.util.List;
import java.util.Set;
import java.util.TreeSet;
import java.util.regex.Matcher;
import java.util.regex.Pattern;

/** The rules of LANGUAGE.md that can be seen from the source and the face, as far as they are easily seen. */
public final class LanguageTest {
    private static final String[] FACE = {
        "int point(int,int)", "int line(int,int,int)", "int pointOf(int,int)", "int change(int,int,int)",
        "int count(int)", "int isCover(int)", "int costOf(int)", "int fewest(int)", "int dear(int)",
        "int sized(int)", "int bare(int)", "long share(int)", "int halves(int)", "int half(int)",
        "int mayHave(int)", "int mate(int)", "int persists()", "int isCrown(int)", "int crowns(int)",
        "int kernel(int,int)", "int round(int,int,int)", "int pack(int)", "int packs(int)",
        "int search(int,int)", "int node(int,int,int)", "int prove(int,int)", "int proves(int,int)",
        "int without(int)", "int cut(int)", "int joins(int)", "int pays(int)", "int paid(int,int)",
        "int feed(int,int)", "int wipe()", "int text()", "long tree(int)", "int treeOf(int,int)", "int plant()",
        "int seed(int)", "int deal(int,int)", "int times(int,int,int,int)", "int sheet(int,int,int)",
        "int write(int,int,int)", "int item(int,int)", "int copy(int,int,int,int,int)", "int load(int)",
        "int judge(int)", "int shelf(int,int,int)", "int taken(int,int)", "int image()", "int back()"};
    private static int wrong = 0;

    private static void must(boolean holds, String what) {
        if (holds) return;
        wrong++;
        System.out.println("language: " + what);
    }

    private static void face() {
        Set<String> due = new TreeSet<>(List.of(FACE));
        Set<String> found = new TreeSet<>();
        Set<String> open = new TreeSet<>();
        List<Method> hidden = new ArrayList<>();
        for (Method m : LinesTouched.class.getDeclaredMethods()) {
            if (Modifier.isPrivate(m.getModifiers())) {
                hidden.add(m);
                continue;
            }
            List<String> types = new ArrayList<>();
            for (Class<?> c : m.getParameterTypes()) types.add(c.getName());
            found.add(m.getReturnType().getName() + " " + m.getName() + "(" + String.join(",", types) + ")");
            open.add(m.getName());
            must(Modifier.isPublic(m.getModifiers()), m + " isn't public");
        }
        must(found.equals(due), "the methods are not those of the document: " + found);
        for (Method m : hidden) must(!open.contains(m.getName()), m + " bears the name of a public one");
        for (Class<?> c : LinesTouched.class.getDeclaredClasses()) {
            must(Modifier.isStatic(c.getModifiers()), c + " isn't static");
            must(!Modifier.isPublic(c.getModifiers()), c + " is public");
            for (Method m : c.getDeclaredMethods())
                must(!open.contains(m.getName()), m + " bears the name of a public one");
            must(fieldsOf(c) <= 20, c + " has too many fields");
        }
        must(LinesTouched.class.getDeclaredClasses().length < 12, "too many classes");
        must(fieldsOf(LinesTouched.class) <= 20, "too many fields");
        must(Modifier.isFinal(LinesTouched.class.getModifiers()), "the class isn't final");
        Constructor<?>[] makers = LinesTouched.class.getDeclaredConstructors();
        must(makers.length == 1 && makers[0].getParameterCount() == 0, "constructors");
    }

    private static int fieldsOf(Class<?> c) {
        int many = 0;
        Set<String> constants = Set.of("NONE", "BAD", "STATE", "FULL");
        for (Field f : c.getDeclaredFields()) {
            if (Modifier.isStatic(f.getModifiers())) must(Modifier.isFinal(f.getModifiers()), f + " isn't final");
            else many++;
            boolean told = c == LinesTouched.class && constants.contains(f.getName());
            if (c == LinesTouched.class) must(Modifier.isPublic(f.getModifiers()) == told, f + "'s face");
            if (c == LinesTouched.class && !told) must(Modifier.isPrivate(f.getModifiers()), f + " isn't private");
        }
        return many;
    }

    private static void source(String text) {
        String code = Pattern.compile("/\\*.*?\\*/", Pattern.DOTALL).matcher(text).replaceAll("");
        code = code.replaceAll("//[^\n]*", "");
        String[] forbidden = {"\\bthrow\\b", "\\bthrows\\b", "\\btry\\b", "\\bcatch\\b", "\\bsynchronized\\b",
            "\\bassert\\b", "->", "::", "Exact\\b", "\\bpackage\\b", "\\bvar\\b", "\\bSystem\\.(?!arraycopy)",
            "\\bThread\\b", "\\bRandom\\b", "\\bprotected\\b", "[^\\x00-\\x7f]"};
        for (String f : forbidden) must(!Pattern.compile(f).matcher(code).find(), "there is " + f);
        Matcher imports = Pattern.compile("import ([^;]+);").matcher(code);
        while (imports.find())
            must(List.of("java.util.Arrays", "java.util.ArrayList", "java.util.List").contains(imports.group(1)),
                    "imports " + imports.group(1));
        Matcher calls = Pattern.compile("\\b(Arrays|Integer|Long|Math)\\.(\\w+)").matcher(code);
        Set<String> fine = Set.of("fill", "copyOf", "copyOfRange", "bitCount", "numberOfTrailingZeros", "min", "max");
        while (calls.find()) must(fine.contains(calls.group(2)), calls.group() + " may not be allowed");
    }

    /** Objects are made by constructors alone, so a call adds nothing to the room of a run. */
    private static void making(String text) {
        Pattern fine = Pattern.compile("^\\s+((private )?final int\\[\\](\\[\\])? \\w+|(private )?final long\\[\\] \\w+"
                + "|private final Halves \\w+|\\w+|int\\[\\] perSet) = new .*");
        for (String line : text.split("\n"))
            if (line.matches(".*\\bnew\\b.*[\\[(].*") && !line.trim().startsWith("//"))
                must(fine.matcher(line).matches(), "made in a call: " + line.trim());
    }

    private static void lengths(String text) {
        String[] rows = text.split("\n");
        int from = 0;
        for (int i = 0; i < rows.length; i++) {
            if (rows[i].matches("^(    |        )[\\w\\[\\] ]+\\([^;]*\\) \\{$")) from = i;
            boolean ends = rows[i].equals("    }") || rows[i].equals("        }");
            if (ends && rows[from].contains("(")) must(i - from < 60, "a long method: " + rows[from].trim());
            must(rows[i].length() <= 120, "a long line: " + rows[i].trim());
            if (rows[i].contains("(int") && rows[i].endsWith("{"))
                must(rows[i].split(",").length <= 7, "many parameters: " + rows[i].trim());
        }
    }

    public static void main(String[] args) throws IOException {
        String text = Files.readString(Path.of("src/main/java/LinesTouched.java"));
        face();
        source(text);
        making(text);
        lengths(text);
        System.out.println(wrong == 0 ? "language: nothing against the rules" : "language: " + wrong + " against");
        if (wrong != 0) System.exit(1);
    }
}
