import java.lang.reflect.Constructor;
import java.lang.reflect.Field;
import java.lang.reflect.Method;
import java.lang.reflect.Modifier;
import java.nio.charset.StandardCharsets;
import java.nio.file.Files;
import java.nio.file.Path;
import java.util.Arrays;
import java.util.Set;
import java.util.TreeSet;
import java.util.regex.Matcher;
import java.util.regex.Pattern;

/** The face of the document and no more of it, and what LANGUAGE.md rules out by a word. */
public final class RulesTest {
    private static final Check check = new Check("RulesTest");
    private static final String FACE = "ask(int) cap(int) copy(int,int,int,int,int) count(int) crew(int,int) digest()"
        + " fault(int) forget() get(int,int,int) house(int,int) last() leave(int,int) lodge(int,int) look(int)"
        + " lose(int) never() owes(int,int) port(int,int) price(int,int) purse(int,int) put(int,int,int,int)"
        + " read(int) richest(int) sailor(int,int) seen(int,int,int) sheet(int,int,int) ship(int,int)"
        + " storm(int,int,int,int) takes(int,int,int) type(int,int) undo(int) was(int,int) where(int,int)"
        + " wipe(int) write(int,int)";

    public static void main(String[] args) throws Exception {
        face();
        words();
        check.due("NONE", TideMen.NONE, -1);
        check.due("BAD", TideMen.BAD, -2);
        check.due("NOT", TideMen.NOT, -3);
        check.due("FULL", TideMen.FULL, -4);
        check.end();
    }

    private static void face() {
        Set<String> open = new TreeSet<>();
        Set<String> openNames = new TreeSet<>();
        for (Method m : TideMen.class.getDeclaredMethods()) {
            if (!Modifier.isPrivate(m.getModifiers())) {
                StringBuilder s = new StringBuilder();
                for (Class<?> p : m.getParameterTypes()) s.append(s.length() == 0 ? "" : ",").append(p.getName());
                open.add(m.getName() + "(" + s + ")");
                openNames.add(m.getName());
                boolean isLong = m.getReturnType() == long.class;
                boolean isDueLong = m.getName().equals("storm") || m.getName().equals("digest");
                isTrue(m + " answers as told", isLong == isDueLong && Modifier.isPublic(m.getModifiers()));
            }
        }
        isTrue("the face is " + open, open.equals(new TreeSet<>(Arrays.asList(FACE.split(" ")))));
        for (Method m : TideMen.class.getDeclaredMethods()) {
            boolean isHidden = Modifier.isPrivate(m.getModifiers());
            isTrue(m + " has a name of its own", !isHidden || !openNames.contains(m.getName()));
        }
        for (Field f : TideMen.class.getDeclaredFields()) {
            boolean isTold = Arrays.asList("NONE", "BAD", "NOT", "FULL").contains(f.getName());
            isTrue(f + " is open or hidden as it should be", isTold == !Modifier.isPrivate(f.getModifiers()));
            isTrue(f + " if static is final", !Modifier.isStatic(f.getModifiers()) || Modifier.isFinal(f.getModifiers()));
        }
        for (Constructor<?> c : TideMen.class.getDeclaredConstructors()) {
            isTrue(c + " is the only one", c.getParameterCount() == 0 && Modifier.isPublic(c.getModifiers()));
        }
        for (Class<?> c : TideMen.class.getDeclaredClasses()) {
            isTrue(c + " is static", Modifier.isStatic(c.getModifiers()) && !Modifier.isPublic(c.getModifiers()));
        }
        isTrue("TideMen is final", Modifier.isFinal(TideMen.class.getModifiers()));
    }

    private static void words() throws Exception {
        String all = Files.readString(Path.of("src/main/java/TideMen.java"), StandardCharsets.ISO_8859_1);
        String code = all.replaceAll("(?s)/\\*.*?\\*/", "").replaceAll("//[^\n]*", "");
        Matcher word = Pattern.compile("\\b(throw|throws|try|catch|finally|synchronized|assert|import|package|var"
            + "|yield|native|volatile|transient|Exact|System\\.(out|err|nanoTime|currentTimeMillis)|Thread|Object"
            + "|hashCode|float|double)\\b|->|::|Exact\\(|@|[^\\x0a\\x20-\\x7e]").matcher(code);
        while (word.find()) {
            isTrue("a word that is ruled out: " + word.group(), false);
        }
    }

    private static void isTrue(String what, boolean is) {
        check.due(what, is ? 1 : 0, 1);
    }
}
