import java.lang.reflect.Constructor;
import java.lang.reflect.Field;
import java.lang.reflect.Method;
import java.lang.reflect.Modifier;
import java.nio.file.Files;
import java.nio.file.Path;
import java.util.Arrays;
import java.util.HashSet;
import java.util.Map;
import java.util.Set;
import java.util.TreeMap;
import java.util.TreeSet;
import java.util.regex.Matcher;
import java.util.regex.Pattern;

/** The rules of LANGUAGE.md that can be looked up in the source or the compiled classes. */
public final class LanguageTest {
    private static final String FACE = "feed(IIIII) end(I) town() fault(I) person(II) matter(II) level() settled() "
            + "order(I) open() last(I) fall(I) swing(II) why(I) wishes() settle(I) drink(I) day() undo() anew() "
            + "act(I) course() step(I) ends() sips() brings(I) stands(I) stood(II) best() closed(I) sets() rests(I) "
            + "bears(I) chain() heaviest() thirst(I) dregs(I) keep(I) firm(I) firms() firmest() sum(II) weak(I) "
            + "votes(II) elected() game(III) move(III) who(I) sipped(II) ask() leaves() judge(I) held(I) when(III) "
            + "differs(II) lasts(I) yields() cups() drawn(III) luck(IIII) price(III) mark(III) count(I) image(I) "
            + "back(I) row(III) write(IIJ) paste(IIIII)";

    public static void main(String[] args) throws Exception {
        face();
        classes();
        source(Files.readString(Path.of("src/main/java/SecondWell.java")));
        Check.finish("LanguageTest");
    }

    private static void face() {
        Set<String> due = new TreeSet<>(Arrays.asList(FACE.split(" ")));
        Set<String> names = new HashSet<>();
        Set<String> found = new TreeSet<>();
        for (Method m : SecondWell.class.getDeclaredMethods()) {
            if (Modifier.isPublic(m.getModifiers())) {
                StringBuilder b = new StringBuilder(m.getName()).append('(');
                for (Class<?> p : m.getParameterTypes()) {
                    b.append(p == long.class ? "J" : p == int.class ? "I" : "?");
                }
                found.add(b.append(')').toString());
                names.add(m.getName());
                same("returns int: " + m, m.getReturnType() == int.class);
            } else {
                same("private: " + m, Modifier.isPrivate(m.getModifiers()));
            }
        }
        same("the face " + found, found.equals(due));
        for (Class<?> c : all()) {
            for (Method m : c.getDeclaredMethods()) {
                boolean isFace = c == SecondWell.class && Modifier.isPublic(m.getModifiers());
                same("no other method of a public one's name: " + m, isFace || !names.contains(m.getName()));
            }
        }
        for (Constructor<?> c : SecondWell.class.getDeclaredConstructors()) {
            same("public constructor", Modifier.isPublic(c.getModifiers()) && c.getParameterCount() == 0);
        }
        for (Field f : SecondWell.class.getDeclaredFields()) {
            boolean isNone = f.getName().equals("NONE");
            same("field " + f, isNone == Modifier.isPublic(f.getModifiers())
                    && isNone != Modifier.isPrivate(f.getModifiers()));
        }
        same("public and final", Modifier.isPublic(SecondWell.class.getModifiers())
                && Modifier.isFinal(SecondWell.class.getModifiers()));
    }

    private static Class<?>[] all() {
        Class<?>[] inside = SecondWell.class.getDeclaredClasses();
        Class<?>[] all = Arrays.copyOf(inside, inside.length + 1);
        all[inside.length] = SecondWell.class;
        return all;
    }

    private static void classes() {
        same("at most twelve classes", all().length <= 12);
        for (Class<?> c : all()) {
            int fields = 0;
            for (Field f : c.getDeclaredFields()) {
                boolean isStatic = Modifier.isStatic(f.getModifiers());
                fields += isStatic ? 0 : 1;
                same("static fields are final: " + f, !isStatic || Modifier.isFinal(f.getModifiers()));
            }
            same("at most twenty fields: " + c, fields <= 20);
            same("static inside: " + c, c == SecondWell.class || Modifier.isStatic(c.getModifiers()));
            for (Method m : c.getDeclaredMethods()) {
                same("at most seven parameters: " + m, m.getParameterCount() <= 7);
                same("no lambda: " + m, !m.isSynthetic());
            }
        }
    }

    private static void source(String text) {
        String code = text.replaceAll("(?s)/\\*.*?\\*/", "").replaceAll("//[^\n]*", "").replaceAll("\"[^\"\n]*\"", "\"\"");
        for (String word : ("throw throws try catch finally synchronized assert package protected volatile transient "
                + "native Object Random Thread System.out System.err System.in System.exit System.nanoTime "
                + "System.currentTimeMillis System.getenv hashCode").split(" ")) {
            same("no " + word, !Pattern.compile("\\b" + Pattern.quote(word) + "\\b").matcher(code).find());
        }
        same("no arrow", !code.contains("->"));
        same("no method reference", !code.contains("::"));
        same("no joining of texts by +", !Pattern.compile("\"\\s*\\+|\\+\\s*\"").matcher(code).find());
        Matcher imports = Pattern.compile("import ([^;]+);").matcher(code);
        while (imports.find()) {
            same("import " + imports.group(1), Set.of("java.util.Arrays", "java.util.ArrayList", "java.util.List",
                    "java.util.Iterator").contains(imports.group(1)));
        }
        Matcher calls = Pattern.compile("\\b(Arrays|System|Math|Integer|Long)\\.(\\w+)").matcher(code);
        while (calls.find()) {
            boolean isOfNumbers = !calls.group(1).equals("Arrays") && !calls.group(1).equals("System");
            same("library " + calls.group(), isOfNumbers ? !calls.group(2).endsWith("Exact")
                    : Set.of("Arrays.fill", "Arrays.copyOf", "Arrays.copyOfRange", "System.arraycopy")
                    .contains(calls.group()));
        }
        methodsAreShort(text);
        callsAreFlat(code);
    }

    /** Of methods of one name the calls of all are taken together, so the depth is no less than it is. */
    private static void callsAreFlat(String code) {
        Map<String, Set<String>> calls = new TreeMap<>();
        String method = null;
        for (String line : code.split("\n")) {
            Matcher head = Pattern.compile("(?: {4}| {8})(?=[a-z])[\\w\\[\\] ]* (\\w+)\\(.*\\) \\{").matcher(line);
            if (head.matches()) {
                method = head.group(1);
                calls.computeIfAbsent(method, k -> new TreeSet<>());
                continue;
            }
            Matcher call = Pattern.compile("(\\w+)\\(").matcher(line);
            while (method != null && call.find()) {
                calls.get(method).add(call.group(1));
            }
        }
        same("methods are found", calls.size() > 69);
        for (String name : calls.keySet()) {
            int depth = depthOf(name, calls, new HashSet<>());
            same("at most eight deep: " + name + " goes " + depth, depth <= 8);
        }
    }

    private static int depthOf(String name, Map<String, Set<String>> calls, Set<String> open) {
        int below = 0;
        open.add(name);
        for (String called : calls.get(name)) {
            if (calls.containsKey(called) && !open.contains(called)) {
                below = Math.max(below, depthOf(called, calls, open));
            }
        }
        open.remove(name);
        return below + 1;
    }

    private static void methodsAreShort(String text) {
        int start = -1;
        String indent = "";
        String[] lines = text.split("\n");
        for (int i = 0; i < lines.length; i++) {
            Matcher head = Pattern.compile("( {4}| {8})\\S.*\\) \\{").matcher(lines[i]);
            if (start < 0 && head.matches()) {
                start = i;
                indent = head.group(1);
            } else if (start >= 0 && lines[i].equals(indent + "}")) {
                same("short method at line " + (start + 1), i - start < 60);
                start = -1;
            }
        }
    }

    private static void same(String rule, boolean holds) {
        Check.due(rule, holds ? 1 : 0, 1);
    }
}
