import java.lang.reflect.Constructor;
import java.lang.reflect.Field;
import java.lang.reflect.Method;
import java.lang.reflect.Modifier;
import java.nio.charset.StandardCharsets;
import java.nio.file.Files;
import java.nio.file.Path;
import java.util.Arrays;
import java.util.HashSet;
import java.util.Map;
import java.util.Set;
import java.util.TreeMap;
import java.util.TreeSet;
import java.util.regex.Matcher;
import java.util.regex.Pattern;

/** The face of the document and no more of it, and what LANGUAGE.md rules out by a word. */
public final class RulesTest {
    private static final Check check = new Check("RulesTest");
    private static final String FACE = "ask(int) cap(int) copy(int,int,int,int,int) count(int) crew(int,int) digest()"
        + " fault(int) forget() get(int,int,int) house(int,int) last() leave(int,int) lodge(int,int) look(int)"
        + " lose(int) never() owes(int,int) port(int,int) price(int,int) purse(int,int) put(int,int,int,int)"
        + " read(int) richest(int) sailor(int,int) seen(int,int,int) sheet(int,int,int) ship(int,int)"
        + " storm(int,int,int,int) takes(int,int,int) type(int,int) undo(int) was(int,int) where(int,int)"
        + " wipe(int) write(int,int)";

    public static void main(String[] args) throws Exception {
        face();
        words();
        limits();
        depth();
        check.due("NONE", TideMen.NONE, -1);
        check.due("BAD", TideMen.BAD, -2);
        check.due("NOT", TideMen.NOT, -3);
        check.due("FULL", TideMen.FULL, -4);
        check.end();
    }

    private static void face() {
        Set<String> open = new TreeSet<>();
        Set<String> openNames = new TreeSet<>();
        for (Method m : TideMen.class.getDeclaredMethods()) {
            if (!Modifier.isPrivate(m.getModifiers())) {
                StringBuilder s = new StringBuilder();
                for (Class<?> p : m.getParameterTypes()) s.append(s.length() == 0 ? "" : ",").append(p.getName());
                open.add(m.getName() + "(" + s + ")");
                openNames.add(m.getName());
                boolean isLong = m.getReturnType() == long.class;
                boolean isDueLong = m.getName().equals("storm") || m.getName().equals("digest");
                isTrue(m + " answers as told", isLong == isDueLong && Modifier.isPublic(m.getModifiers()));
            }
        }
        isTrue("the face is " + open, open.equals(new TreeSet<>(Arrays.asList(FACE.split(" ")))));
        for (Method m : TideMen.class.getDeclaredMethods()) {
            boolean isHidden = Modifier.isPrivate(m.getModifiers());
            isTrue(m + " has a name of its own", !isHidden || !openNames.contains(m.getName()));
        }
        for (Field f : TideMen.class.getDeclaredFields()) {
            boolean isTold = Arrays.asList("NONE", "BAD", "NOT", "FULL").contains(f.getName());
            isTrue(f + " is open or hidden as it should be", isTold == !Modifier.isPrivate(f.getModifiers()));
            boolean isStatic = Modifier.isStatic(f.getModifiers());
            isTrue(f + " if static is final", !isStatic || Modifier.isFinal(f.getModifiers()));
        }
        for (Constructor<?> c : TideMen.class.getDeclaredConstructors()) {
            isTrue(c + " is the only one", c.getParameterCount() == 0 && Modifier.isPublic(c.getModifiers()));
        }
        for (Class<?> c : TideMen.class.getDeclaredClasses()) {
            isTrue(c + " is static", Modifier.isStatic(c.getModifiers()) && !Modifier.isPublic(c.getModifiers()));
        }
        isTrue("TideMen is final", Modifier.isFinal(TideMen.class.getModifiers()));
    }

    private static String code() throws Exception {
        String all = Files.readString(Path.of("src/main/java/TideMen.java"), StandardCharsets.ISO_8859_1);
        return all.replaceAll("(?s)/\\*.*?\\*/", "").replaceAll("//[^\n]*", "");
    }

    private static void words() throws Exception {
        Matcher word = Pattern.compile("\\b(throw|throws|try|catch|finally|synchronized|assert|import|package|var"
            + "|yield|native|volatile|transient|Exact|System\\.(out|err|nanoTime|currentTimeMillis)|Thread|Object"
            + "|hashCode|float|double)\\b|->|::|Exact\\(|@|[^\\x0a\\x20-\\x7e]").matcher(code());
        while (word.find()) {
            isTrue("a word that is ruled out: " + word.group(), false);
        }
    }

    // LANGUAGE.md 11
    private static void limits() {
        Set<Class<?>> classes = new HashSet<>(Arrays.asList(TideMen.class.getDeclaredClasses()));
        classes.add(TideMen.class);
        isTrue("at most 12 classes: " + classes.size(), classes.size() <= 12);
        for (Class<?> c : classes) {
            int fields = 0;
            for (Field f : c.getDeclaredFields()) fields += Modifier.isStatic(f.getModifiers()) ? 0 : 1;
            isTrue(c + " has at most 20 fields: " + fields, fields <= 20);
            for (Method m : c.getDeclaredMethods()) isTrue(m + " takes at most 7", m.getParameterCount() <= 7);
        }
    }

    // LANGUAGE.md 11, read off the source: a method is known by its name, which no two of the file share
    private static void depth() throws Exception {
        Map<String, String> bodies = new TreeMap<>();
        String method = "(?ms)^( {4}| {8})(?:[\\w\\[\\]]+ )+(\\w+)\\([^()]*\\) \\{\n(.*?)^\\1\\}";
        Matcher m = Pattern.compile(method).matcher(code());
        while (m.find()) {
            isTrue(m.group(2) + " is the only one of its name", bodies.put(m.group(2), m.group(3)) == null);
            isTrue(m.group(2) + " has at most 60 lines", m.group(3).split("\n").length <= 60);
        }
        for (Class<?> c : TideMen.class.getDeclaredClasses()) {
            for (Method n : c.getDeclaredMethods()) isTrue(n + " was read", bodies.containsKey(n.getName()));
        }
        for (Method n : TideMen.class.getDeclaredMethods()) isTrue(n + " was read", bodies.containsKey(n.getName()));
        for (String name : bodies.keySet()) {
            int levels = levelsOf(name, bodies, 1);
            isTrue("calls from " + name + " go at most eight deep: " + levels, levels <= 8);
        }
    }

    private static int levelsOf(String name, Map<String, String> bodies, int open) {
        int most = 1;
        Matcher call = Pattern.compile("\\b(\\w+)\\(").matcher(bodies.get(name));
        while (open < 20 && call.find()) {
            if (bodies.containsKey(call.group(1))) {
                most = Math.max(most, 1 + levelsOf(call.group(1), bodies, open + 1));
            }
        }
        return most;
    }

    private static void isTrue(String what, boolean is) {
        check.due(what, is ? 1 : 0, 1);
    }
}
