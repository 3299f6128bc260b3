import java.lang.reflect.Array;
import java.lang.reflect.Constructor;
import java.lang.reflect.Field;
import java.lang.reflect.Method;
import java.lang.reflect.Modifier;
import java.nio.charset.StandardCharsets;
import java.nio.file.Files;
import java.nio.file.Path;
import java.util.ArrayList;
import java.util.IdentityHashMap;
import java.util.List;
import java.util.Map;
import java.util.Set;
import java.util.TreeSet;
import java.util.regex.Matcher;
import java.util.regex.Pattern;

// The class's face, and the rules of ../shared/LANGUAGE.md that a program can see.
public final class LanguageTest extends Checks {
    private static final String[] FACE = {
        "int clear(int)", "int add(int,int,int)", "int corners(int)", "int corner(int,int,int)", "int points(int,int)",
        "long times(int,int,int)", "int where(int,int,int)", "int point(int,int,int)", "int width(int,int,int)",
        "int least(int,int)", "int map(int,int,int,int,int,int,int,int)", "int maps(int,int)", "int alike(int,int)",
        "int heaps()", "int sum(int,int,int)", "int mixed(int,int)", "long parts(int)", "int part(int,int)",
        "int normal(int,int,int)", "int reflexive(int)", "int dual(int,int)", "int between(int,int,int,int)",
        "int ray(int,int,int,int,int,int)", "int cuts(int,int)", "int cut(int,int,int)", "int flips(int,int)",
        "int height(int,int,int)", "int pieces(int,int)", "int piece(int,int,int)"
    };
    private static final String[] CONSTANTS = {"BAD", "NOT", "FULL", "SPENT", "NONE", "NO"};
    private static final String[] FORBIDDEN = {
        "throw", "throws", "try", "catch", "finally", "synchronized", "assert", "Exception", "Error", "native", "volatile",
        "transient", "strictfp", "Object", "Random", "Thread", "Runtime", "Class", "currentTimeMillis", "nanoTime",
        "identityHashCode", "hashCode", "toString", "var", "float", "double", "Collections", "stream"
    };

    private static String told(Method m) {
        StringBuilder s = new StringBuilder();
        s.append(m.getReturnType().getName()).append(' ').append(m.getName()).append('(');
        for (int i = 0; i < m.getParameterCount(); i++) {
            s.append(i == 0 ? "" : ",").append(m.getParameterTypes()[i].getName());
        }
        return s.append(')').toString();
    }

    private static void testFace() {
        Class<?> c = GridPolygons.class;
        if (!Modifier.isPublic(c.getModifiers()) || !Modifier.isFinal(c.getModifiers())) {
            fault("the class is not public and final");
        }
        Constructor<?>[] made = c.getDeclaredConstructors();
        if (made.length != 1 || !Modifier.isPublic(made[0].getModifiers()) || made[0].getParameterCount() != 0) {
            fault("the constructors are not as in the document");
        }
        Set<String> want = new TreeSet<>(Set.of(FACE));
        Set<String> names = new TreeSet<>();
        for (Method m : c.getDeclaredMethods()) {
            if (Modifier.isPublic(m.getModifiers())) {
                names.add(m.getName());
                if (!want.remove(told(m)) || Modifier.isStatic(m.getModifiers())) {
                    fault("not in the document: " + told(m));
                }
            }
        }
        for (String missing : want) {
            fault("missing: " + missing);
        }
        for (Method m : c.getDeclaredMethods()) {
            if (!Modifier.isPublic(m.getModifiers()) && (names.contains(m.getName()) || !Modifier.isPrivate(m.getModifiers()))) {
                fault("a private method has a public name, or is not private: " + m.getName());
            }
        }
        testFields(c, new TreeSet<>(Set.of(CONSTANTS)));
        testInside(c, names);
    }

    private static void testFields(Class<?> c, Set<String> want) {
        for (Field f : c.getDeclaredFields()) {
            int m = f.getModifiers();
            if (Modifier.isStatic(m) && !Modifier.isFinal(m)) {
                fault("a static field is not final: " + f.getName());
            }
            if (Modifier.isPublic(m) && !(want.remove(f.getName()) && Modifier.isStatic(m) && f.getType() == int.class)) {
                fault("not in the document: " + f.getName());
            }
            if (!Modifier.isPublic(m) && !Modifier.isPrivate(m)) {
                fault("a field is not private: " + f.getName());
            }
        }
        for (String missing : want) {
            fault("missing: " + missing);
        }
    }

    private static void testInside(Class<?> c, Set<String> names) {
        Class<?>[] inside = c.getDeclaredClasses();
        if (inside.length > 11) {
            fault("more than 12 classes");
        }
        for (Class<?> d : inside) {
            int fields = 0;
            for (Field f : d.getDeclaredFields()) {
                fields += Modifier.isStatic(f.getModifiers()) ? 0 : 1;
            }
            if (fields > 20) {
                fault("more than 20 fields: " + d.getName());
            }
            if (!Modifier.isStatic(d.getModifiers()) || Modifier.isPublic(d.getModifiers())) {
                fault("not static, or public: " + d.getName());
            }
            for (Method m : d.getDeclaredMethods()) {
                if (names.contains(m.getName())) {
                    fault("a method inside has a public name: " + m.getName());
                }
                if (m.getParameterCount() > 7) {
                    fault("more than 7 parameters: " + m.getName());
                }
            }
        }
    }

    /** One room is for all calls of a run: what an object holds is far less, and no more after many calls. */
    private static void testRoom() throws IllegalAccessException {
        GridPolygons g = with(0, 1, 1, 0, 3, 0, 3, 1, 2, 3, 1, 3, 0, 2);
        long[] before = room(g);
        make24(g, 1, -30, 0, 3);
        for (int i = 0; i < 120; i++) {
            g.add(0, i % 4, 3);
            g.cuts(0, 0);
            g.part(1, -1);
            g.pieces(0, 0);
        }
        long[] after = room(g);
        due("objects and arrays after many calls", after[0], before[0]);
        due("fields and elements after many calls", after[1], before[1]);
        if (after[0] > 600 || after[1] > 365000) {
            fault("an object holds too much: " + after[0] + " objects and arrays, " + after[1] + " fields and elements");
        }
    }

    /** How many objects and arrays, how many fields and elements of them. */
    private static long[] room(Object whole) throws IllegalAccessException {
        Map<Object, Object> seen = new IdentityHashMap<>();
        List<Object> found = new ArrayList<>();
        found.add(whole);
        long fields = 0;
        for (int i = 0; i < found.size(); i++) {
            Object o = found.get(i);
            if (o == null || seen.put(o, o) != null) {
                continue;
            }
            if (o.getClass().isArray()) {
                fields += Array.getLength(o);
                for (int k = 0; o instanceof Object[] && k < Array.getLength(o); k++) {
                    found.add(Array.get(o, k));
                }
            }
            for (Class<?> c = o.getClass(); c != null && c.getName().startsWith("GridPolygons"); c = c.getSuperclass()) {
                for (Field f : c.getDeclaredFields()) {
                    if (!Modifier.isStatic(f.getModifiers())) {
                        fields++;
                        f.setAccessible(true);
                        found.add(f.getType().isPrimitive() ? null : f.get(o));
                    }
                }
            }
        }
        return new long[] {seen.size(), fields};
    }

    /** The program without what stands in comments, its lines as they are. */
    private static String bare(String text) {
        StringBuilder s = new StringBuilder();
        int i = 0;
        while (i < text.length()) {
            if (text.startsWith("/*", i)) {
                int end = text.indexOf("*/", i) + 2;
                text.substring(i, end).chars().filter(ch -> ch == '\n').forEach(ch -> s.append('\n'));
                i = end;
            } else if (text.startsWith("//", i)) {
                i = text.indexOf('\n', i);
            } else {
                s.append(text.charAt(i));
                i++;
            }
        }
        return s.toString();
    }

    private static void testText(String text) {
        for (int i = 0; i < text.length(); i++) {
            if (text.charAt(i) > 126) {
                fault("a sign beyond 126");
            }
        }
        String bare = bare(text);
        for (String word : FORBIDDEN) {
            if (Pattern.compile("\\b" + word + "\\b").matcher(bare).find()) {
                fault("a word that is not allowed: " + word);
            }
        }
        String[] signs = {"->", "::", "\"", "static {", "while (true)", "for (;;)"};
        for (String sign : signs) {
            if (bare.contains(sign)) {
                fault("a sign that is not used: " + sign);
            }
        }
        dueOnly(bare, "import ([\\w.]+);", Set.of("java.util.Arrays"));
        dueOnly(bare, "\\bMath\\.(\\w+)", Set.of("abs", "min", "max", "floorDiv", "floorMod"));
        dueOnly(bare, "\\bSystem\\.(\\w+)", Set.of("arraycopy"));
        dueOnly(bare, "\\bArrays\\.(\\w+)", Set.of("fill", "copyOf", "copyOfRange"));
        dueOnly(bare, "\\bLong\\.(\\w+)", Set.of("bitCount", "compare"));
        dueOnly(bare, "\\bInteger\\.(\\w+)", Set.of("compare"));
        testMethods(bare);
    }

    private static void dueOnly(String bare, String what, Set<String> allowed) {
        Matcher m = Pattern.compile(what).matcher(bare);
        while (m.find()) {
            if (!allowed.contains(m.group(1))) {
                fault("not in the list of what is used: " + m.group());
            }
        }
    }

    /** A method begins with its head, in a line that ends with an opening brace, and ends where that is closed. */
    private static void testMethods(String bare) {
        Pattern head = Pattern.compile("^( +)(?=\\S)[\\w\\[\\]. ]* ?\\b(\\w+)\\((.*)\\) \\{$");
        String[] lines = bare.split("\n", -1);
        for (int i = 0; i < lines.length; i++) {
            Matcher m = head.matcher(lines[i]);
            if (!m.matches() || lines[i].trim().startsWith("else")) {
                continue;
            }
            int end = i;
            while (end < lines.length && !lines[end].equals(m.group(1) + "}")) {
                end++;
            }
            if (end - i > 60) {
                fault("longer than 60 lines: " + m.group(2));
            }
            for (int k = i; k < end; k++) {
                if (Character.isLowerCase(m.group(2).charAt(0)) && lines[k].matches(".*\\bnew\\b.*")) {
                    fault("a call makes an object: " + m.group(2));
                }
            }
            if (m.group(3).split(",").length > 7 && !m.group(2).equals("map")) {
                fault("more than 7 parameters: " + m.group(2));
            }
        }
    }

    public static void main(String[] args) throws Exception {
        testFace();
        testRoom();
        testText(Files.readString(Path.of("src/main/java/GridPolygons.java"), StandardCharsets.UTF_8));
        end("the face and the language are as told");
    }
}
