import java.lang.reflect.Constructor;
import java.lang.reflect.Field;
import java.lang.reflect.Method;
import java.lang.reflect.Modifier;
import java.nio.file.Files;
import java.nio.file.Path;
import java.util.ArrayList;
import java.util.HashSet;
import java.util.List;
import java.util.Map;
import java.util.Set;
import java.util.TreeMap;
import java.util.TreeSet;
import java.util.regex.Matcher;
import java.util.regex.Pattern;

/** The rules of the language and the document's face, as far as the source and the class show them. */
public final class RulesTest {
    private static int wrong = 0;

    private static void check(boolean good, String what) {
        if (!good) {
            wrong++;
            System.out.println(what);
        }
    }

    /** Each method of the document with its number of int parameters. */
    private static final String FACE = "house5 of2 rank2 stand2 at2 terms2 door2 wall2 feed5 end1 row0 ruin0 law0 fault0 force1"
        + " touch2 visit3 visits1 comes3 way3 parts1 holders2 cut3 wish3 clear0 doors1 news2 log2 forget0 wrong1 fits2 round2"
        + " stop3 meet3 site5 flood2 flooded2 image1 back1 count1 status0";

    private static void face() {
        Set<String> due = new TreeSet<>(List.of(FACE.split(" ")));
        Set<String> is = new TreeSet<>();
        Set<String> names = new HashSet<>();
        for (Method m : CornerTown.class.getDeclaredMethods()) {
            if (!Modifier.isPrivate(m.getModifiers())) {
                is.add(m.getName() + m.getParameterCount());
                names.add(m.getName());
                check(Modifier.isPublic(m.getModifiers()) && !Modifier.isStatic(m.getModifiers())
                    && m.getReturnType() == int.class, m + " is not of the face");
                for (Class<?> p : m.getParameterTypes()) {
                    check(p == int.class, m + " takes another type");
                }
            }
        }
        check(due.equals(is), "the face is " + is);
        List<Class<?>> all = new ArrayList<>(List.of(CornerTown.class.getDeclaredClasses()));
        check(all.size() <= 11, "classes: " + (all.size() + 1));
        all.add(CornerTown.class);
        for (Class<?> c : all) {
            members(c, names);
        }
        for (Field f : CornerTown.class.getDeclaredFields()) {
            check(f.getName().equals("NONE") || Modifier.isPrivate(f.getModifiers()), f + " can be seen");
        }
        Constructor<?>[] made = CornerTown.class.getDeclaredConstructors();
        check(made.length == 1 && Modifier.isPublic(made[0].getModifiers()) && made[0].getParameterCount() == 0, "constructors");
        check(Modifier.isFinal(CornerTown.class.getModifiers()), "the class is not final");
    }

    private static void members(Class<?> c, Set<String> names) {
        for (Method m : c.getDeclaredMethods()) {
            check(m.getParameterCount() <= 7, m + " takes too many");
            boolean own = c != CornerTown.class || Modifier.isPrivate(m.getModifiers());
            check(!own || !names.contains(m.getName()), m + " bears a name of the face");
        }
        int fields = 0;
        for (Field f : c.getDeclaredFields()) {
            boolean fixed = Modifier.isStatic(f.getModifiers());
            check(!fixed || Modifier.isFinal(f.getModifiers()), f + " is static and not final");
            fields += fixed ? 0 : 1;
        }
        check(fields <= 20, c + " has fields: " + fields);
        check(c == CornerTown.class || Modifier.isStatic(c.getModifiers()), c + " is not static");
    }

    private static String bare(String source) {
        return source.replaceAll("(?s)/\\*.*?\\*/", "").replaceAll("//[^\n]*", "").replaceAll("\"[^\"\n]*\"", "\"\"");
    }

    private static void words(String code) {
        String[] never = {"throw", "throws", "try", "catch", "finally", "synchronized", "assert", "interface", "double", "float",
            "System.out", "System.err", "Random", "Thread", "hashCode", "toString", "Exact", "lambda", "var", "volatile",
            "transient", "native", "protected", "package", "MAX_VALUE", "MIN_VALUE", "Object", "static \\{"};
        for (String word : never) {
            check(!Pattern.compile("(?<![A-Za-z0-9_])" + word + "(?![A-Za-z0-9_])").matcher(code).find(), "the source has " + word);
        }
        check(!code.contains("->"), "the source has an arrow");
        check(!code.contains("::"), "the source has a method reference");
        Matcher imports = Pattern.compile("(?m)^import (.*);").matcher(code);
        while (imports.find()) {
            check(imports.group(1).equals("java.util.Arrays"), "import of " + imports.group(1));
        }
        Set<String> library = Set.of("Arrays.copyOf", "Arrays.fill", "System.arraycopy", "Math.max", "Math.min", "Integer.bitCount");
        Matcher calls = Pattern.compile("\\b(Arrays|System|Math|Integer|Long|String)\\.(\\w+)").matcher(code);
        while (calls.find()) {
            check(library.contains(calls.group()), "the source calls " + calls.group());
        }
        check(!code.chars().anyMatch(c -> c > 126), "the source has a sign beyond 126");
    }

    private static void lengths(String source) {
        int start = 0;
        String[] lines = source.split("\n");
        for (int i = 0; i < lines.length; i++) {
            if (lines[i].matches("(    |        )[\\w\\[\\]<>]+ .*\\) \\{")) {
                start = i;
            }
            if (lines[i].matches("(    |        )}")) {
                check(i - start < 60 || lines[start].contains("class"), "long method at line " + (start + 1));
            }
            check(lines[i].length() <= 120, "long line " + (i + 1));
        }
    }

    private static final int DEEPEST = 8;
    private static final Pattern METHOD = Pattern.compile(
        "(?ms)^(    |        )(?:public |private |static |final )*[\\w\\[\\]]+ (\\w+)\\([^)]*\\) \\{\n(.*?)^\\1\\}");

    /** Calls by their names: those of one name count as one method, which makes ways longer, never shorter. */
    private static Map<String, Set<String>> callsOf(String code) {
        Map<String, String> bodies = new TreeMap<>();
        Matcher methods = METHOD.matcher(code);
        while (methods.find()) {
            bodies.merge(methods.group(2), methods.group(3), String::concat);
        }
        Map<String, Set<String>> calls = new TreeMap<>();
        for (Map.Entry<String, String> body : bodies.entrySet()) {
            Set<String> called = new TreeSet<>();
            Matcher names = Pattern.compile("(?<!new )\\b(\\w+)\\(").matcher(body.getValue());
            while (names.find()) {
                if (bodies.containsKey(names.group(1))) {
                    called.add(names.group(1));
                }
            }
            calls.put(body.getKey(), called);
        }
        return calls;
    }

    private static int depth(Map<String, Set<String>> calls, String name, List<String> open) {
        if (open.contains(name)) {
            return 0;
        }
        open.add(name);
        int deepest = 0;
        for (String called : calls.get(name)) {
            deepest = Math.max(deepest, depth(calls, called, open));
        }
        open.remove(open.size() - 1);
        return deepest + 1;
    }

    /** Rule 11; law goes through the reader's recursion, which its brackets bound. */
    private static void depths(String code) {
        Map<String, Set<String>> calls = callsOf(code);
        for (String call : FACE.replaceAll("\\d", "").split(" ")) {
            check(calls.containsKey(call), "the source has no " + call);
            int deep = call.equals("law") || !calls.containsKey(call) ? 0 : depth(calls, call, new ArrayList<>());
            check(deep <= DEEPEST, call + " goes " + deep + " deep");
        }
    }

    public static void main(String[] args) throws Exception {
        String source = Files.readString(Path.of("src/main/java/CornerTown.java"));
        face();
        words(bare(source));
        lengths(source);
        depths(bare(source));
        System.out.println(wrong == 0 ? "all rules that can be seen are kept" : wrong + " rules are not kept");
        if (wrong != 0) {
            System.exit(1);
        }
    }
}
