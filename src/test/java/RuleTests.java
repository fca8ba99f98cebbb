import java.io.IOException;
import java.lang.management.ManagementFactory;
import java.lang.reflect.Constructor;
import java.lang.reflect.Field;
import java.lang.reflect.Method;
import java.lang.reflect.Modifier;
import java.nio.file.Files;
import java.nio.file.Path;
import java.util.List;
import java.util.Map;
import java.util.Set;
import java.util.TreeMap;
import java.util.TreeSet;
import java.util.regex.Matcher;
import java.util.regex.Pattern;

/** The face of the class, those rules of LANGUAGE.md that can be seen from its text, and how much room its calls take. */
public final class RuleTests {
    private static final String SOURCE = "src/main/java/StrokeCuts.java";
    private static final Set<String> FACE = new TreeSet<>(List.of(
        "int picture(int,int)", "int shade(int,int,int)", "int draws(int,int)", "int blot(int,int,int,int)", "int mark(int,int,int)",
        "int stroke(int,int,int,int,int)", "int sets(int,int)", "int dot(int,int,int)", "int link(int,int,int)", "int cost()",
        "long side(int)", "int sure(int,int)", "int were(int,int,int)", "int strain(int,int,int,int)", "int tight(int,int,int)",
        "int costs(long)", "int shape(int)", "int learns(int)", "int keeps()", "int turns()", "int type(int)", "int clear()",
        "int does()", "int back()", "int told(int)", "long digest()"));
    private static int wrong = 0;

    private static void hold(boolean holds, String what) {
        if (!holds) {
            wrong++;
            System.out.println("does not hold: " + what);
        }
    }

    private static String signature(Method m) {
        StringBuilder text = new StringBuilder(m.getReturnType().getSimpleName()).append(' ').append(m.getName()).append('(');
        for (Class<?> type : m.getParameterTypes()) {
            text.append(text.charAt(text.length() - 1) == '(' ? "" : ",").append(type.getSimpleName());
        }
        return text.append(')').toString();
    }

    private static void face() {
        Class<?> c = StrokeCuts.class;
        hold(Modifier.isPublic(c.getModifiers()) && Modifier.isFinal(c.getModifiers()), "the class is public and final");
        Set<String> found = new TreeSet<>(), names = new TreeSet<>();
        for (Method m : c.getDeclaredMethods()) {
            if (Modifier.isPublic(m.getModifiers()) && !Modifier.isStatic(m.getModifiers())) {
                found.add(signature(m));
                names.add(m.getName());
            } else {
                hold(Modifier.isPrivate(m.getModifiers()) || m.isSynthetic(), m + " is private");
            }
        }
        hold(found.equals(FACE), "the public methods are those of the document: " + found);
        Constructor<?>[] constructors = c.getDeclaredConstructors();
        hold(constructors.length == 1 && constructors[0].getParameterCount() == 0 && Modifier.isPublic(constructors[0].getModifiers()),
            "one public constructor");
        fields(c);
        for (Class<?> inner : c.getDeclaredClasses()) {
            hold(Modifier.isStatic(inner.getModifiers()) && !Modifier.isPublic(inner.getModifiers()), inner + " is static and not public");
            for (Method m : inner.getDeclaredMethods()) {
                hold(!names.contains(m.getName()), m + " bears no public name");
                hold(m.getParameterCount() <= 7, m + " has at most seven parameters");
            }
            fields(inner);
        }
        hold(c.getDeclaredClasses().length <= 12, "at most twelve classes");
    }

    private static void fields(Class<?> c) {
        int own = 0;
        for (Field f : c.getDeclaredFields()) {
            if (Modifier.isStatic(f.getModifiers())) {
                hold(Modifier.isFinal(f.getModifiers()), f + " is final");
            } else {
                own++;
            }
            if (c == StrokeCuts.class) {
                boolean isFace = Set.of("NONE", "BAD", "NO", "FULL").contains(f.getName());
                hold(isFace ? Modifier.isPublic(f.getModifiers()) : Modifier.isPrivate(f.getModifiers()), f + " is as visible as it should be");
            }
        }
        hold(own <= 20, c + " has at most twenty fields");
    }

    private static void constants() {
        hold(StrokeCuts.NONE == -1 && StrokeCuts.BAD == -2 && StrokeCuts.NO == -3 && StrokeCuts.FULL == -4, "the constants");
    }

    private static void words(String text) {
        String code = text.replaceAll("(?s)/\\*.*?\\*/", " ").replaceAll("//[^\n]*", " ");
        String[] barred = {"throw", "throws", "try", "catch", "finally", "synchronized", "assert", "import", "package", "protected",
            "volatile", "transient", "native", "System\\.(?!arraycopy)\\w+", "\\w+Exact", "Object", "hashCode", "toString", "var"};
        for (String word : barred) {
            Matcher m = Pattern.compile("\\b" + word + "\\b").matcher(code);
            hold(!m.find(), "the text is free of " + word);
        }
        hold(!code.contains("->") && !code.contains("::"), "no lambda, no method reference");
        hold(text.chars().allMatch(c -> c == '\n' || c >= 32 && c < 127), "the text has plain signs alone");
    }

    private static void methodLengths(String text) {
        String[] lines = text.split("\n");
        Pattern head = Pattern.compile("^( {4}| {8})(\\w[\\w\\[\\] ]*)\\(.*\\) \\{$");
        for (int i = 0; i < lines.length; i++) {
            Matcher m = head.matcher(lines[i]);
            if (m.matches()) {
                int end = i;
                while (end < lines.length && !lines[end].equals(m.group(1) + "}")) {
                    end++;
                }
                hold(end - i < 60, lines[i].trim() + " is short");
            }
        }
    }

    /** Each method's name, what stands ahead of it, and what stands in it; names are told once in the whole text. */
    private static Map<String, String[]> methods(String text) {
        String[] lines = text.replaceAll("(?s)/\\*.*?\\*/", " ").replaceAll("//[^\n]*", " ").split("\n");
        Pattern head = Pattern.compile("^( {4}| {8})((?:[\\w\\[\\]]+ )*)(\\w+)(\\([^()]*\\)) \\{$");
        Map<String, String[]> found = new TreeMap<>();
        for (int i = 0; i < lines.length; i++) {
            Matcher m = head.matcher(lines[i]);
            if (m.matches()) {
                StringBuilder body = new StringBuilder();
                for (int at = i + 1; at < lines.length && !lines[at].equals(m.group(1) + "}"); at++) {
                    body.append(lines[at]).append('\n');
                }
                hold(found.put(m.group(3), new String[] {m.group(2), m.group(4), body.toString()}) == null, m.group(3) + " is told once");
            }
        }
        return found;
    }

    private static Set<String> callsIn(String body) {
        Set<String> names = new TreeSet<>();
        Matcher m = Pattern.compile("(?<!new )\\b(\\w+)\\(").matcher(body);
        while (m.find()) {
            names.add(m.group(1));
        }
        return names;
    }

    // rule 8: what calls itself is private, static and carries its depth; nothing else leads back to itself
    private static void recursion(Map<String, String[]> methods) {
        for (Map.Entry<String, String[]> method : methods.entrySet()) {
            if (callsIn(method.getValue()[2]).contains(method.getKey())) {
                hold(method.getValue()[0].startsWith("private static "), method.getKey() + " calls itself and is private and static");
                hold(method.getValue()[1].contains("int depth"), method.getKey() + " calls itself and carries its depth");
            }
        }
    }

    // rule 11: a call of the library counts as one deep
    private static int deep(Map<String, String[]> methods, String name, int open) {
        int deepest = 0;
        if (!methods.containsKey(name) || open > 20) {
            return open > 20 ? 20 : 1;
        }
        for (String called : callsIn(methods.get(name)[2])) {
            boolean isCall = !called.equals(name) && !Set.of("if", "for", "while", "switch").contains(called);
            deepest = isCall ? Math.max(deepest, deep(methods, called, open + 1)) : deepest;
        }
        return 1 + deepest;
    }

    private static void callDepth(Map<String, String[]> methods) {
        hold(methods.size() > 60, "the methods are found");
        for (String name : methods.keySet()) {
            int deep = deep(methods, name, 1);
            hold(deep <= 8, name + " goes at most eight deep, but " + deep);
        }
    }

    // a run of 512 calls of the dearest kind must not fill the room that all calls share
    private static void room() {
        com.sun.management.ThreadMXBean threads = (com.sun.management.ThreadMXBean) ManagementFactory.getThreadMXBean();
        allCalls(new StrokeCuts());
        StrokeCuts c = new StrokeCuts();
        long before = threads.getCurrentThreadAllocatedBytes();
        for (int i = 0; i < 20; i++) {
            allCalls(c);
        }
        long taken = threads.getCurrentThreadAllocatedBytes() - before;
        hold(taken < 20000, "calls make no objects, but " + taken + " bytes were taken");
    }

    private static void allCalls(StrokeCuts c) {
        c.picture(6, 6);
        c.draws(17, 10);
        c.sets(5, 8);
        c.shade(1, 1, 1);
        c.blot(3, 3, 1, 5);
        c.mark(0, 0, 1);
        c.stroke(2, 5, 0, 5, 5);
        c.dot(0, 0, 2);
        c.link(0, 0, 2);
        c.cost();
        c.side(0);
        c.side(1);
        c.sure(2, 2);
        c.were(2, 2, 1);
        c.strain(2, 2, 2, 50);
        c.tight(2, 2, 2);
        c.costs(1);
        for (int what = 0; what < 8; what++) {
            c.shape(what);
        }
        c.learns(20);
        c.clear();
        c.type('l');
        c.type('9');
        c.type(';');
        c.does();
        c.keeps();
        c.turns();
        c.back();
        c.digest();
        c.told(99);
    }

    public static void main(String[] args) throws IOException {
        String text = Files.readString(Path.of(SOURCE));
        face();
        constants();
        words(text);
        methodLengths(text);
        Map<String, String[]> methods = methods(text);
        recursion(methods);
        callDepth(methods);
        room();
        System.out.println(wrong == 0 ? "all rules hold" : wrong + " rules do not hold");
        if (wrong != 0) {
            System.exit(1);
        }
    }
}
