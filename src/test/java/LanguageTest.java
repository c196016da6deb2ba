import com.sun.management.ThreadMXBean;
import java.lang.management.ManagementFactory;
import java.lang.reflect.Field;
import java.lang.reflect.Method;
import java.lang.reflect.Modifier;
import java.nio.charset.StandardCharsets;
import java.nio.file.Files;
import java.nio.file.Path;
import java.util.Arrays;
import java.util.HashSet;
import java.util.NoSuchElementException;
import java.util.Set;
import java.util.TreeSet;
import java.util.regex.Matcher;
import java.util.regex.Pattern;

/** The class keeps to LANGUAGE.md, as far as reflection and the text can tell. */
public final class LanguageTest {
    private static final Check c = new Check("LanguageTest");
    private static final String[] FACE = {
        "int stop(int,int,boolean)", "int leg(int,int,int)", "int drums(int,int)",
        "int boat(int,int,int,int,int,int,int,int)", "int swell(int,int,int)", "int wind(int,int,int)",
        "int swellOf(int,int,int)", "int windOf(int,int,int)", "int feed(int,int,int,int,int)", "int end(int)", "int rules()",
        "int barred(int,boolean)", "int fuel(int,int)", "int lift(int,int)", "int turn(int)", "int point(int,int)",
        "int go(int)", "boolean rest(int)", "boolean breaks(int,boolean)", "boolean raise(int)",
        "int bag(int,int,int,int)", "boolean load(int,int)", "boolean unload(int)", "int mail(int,int)", "int of(int,int)",
        "boolean run(int,int)", "int suspects()", "int way(int,int,int,int,int,int)", "int count(int)", "int free(int)"};
    private static final String[] FORBIDDEN = {"->", "::", "\\btry\\b", "\\bcatch\\b", "\\bfinally\\b", "\\bsynchronized\\b",
        "\\bassert\\b", "\\bprotected\\b", "\\bpackage\\b", "Exact\\(", "hashCode", "\\.toString\\(", "\\bdouble\\b",
        "\\bfloat\\b", "\\bThread\\b", "\\bRandom\\b", "System\\.(?!arraycopy)", "\"\\s*\\+", "\\+\\s*\"",
        "[^\\x00-\\x7f]", "\\bvar\\b", "\\bstatic\\s*\\{"};

    public static void main(String[] args) throws Exception {
        c.promise("face");
        face();
        c.promise("members");
        members();
        c.promise("room");
        room();
        c.promise("text");
        text(Files.readString(Path.of("src/main/java/HullLine.java"), StandardCharsets.ISO_8859_1));
        c.finish();
    }

    private static void face() {
        Set<String> due = new TreeSet<>(Arrays.asList(FACE));
        Set<String> got = new TreeSet<>();
        for (Method m : HullLine.class.getDeclaredMethods()) {
            if (!Modifier.isPrivate(m.getModifiers())) {
                String types = Arrays.toString(m.getParameterTypes()).replaceAll("[\\[\\] ]", "");
                got.add(m.getReturnType() + " " + m.getName() + "(" + types + ")");
                c.yes(m + " is public and of an object", m.getModifiers() == Modifier.PUBLIC);
                boolean throwing = m.getName().equals("mail") || m.getName().equals("of");
                c.yes(m + " tells what it throws", Arrays.equals(m.getExceptionTypes(),
                    throwing ? new Class<?>[] {NoSuchElementException.class} : new Class<?>[0]));
            }
        }
        c.yes("the face is " + got, got.equals(due));
        c.eq("constructors", HullLine.class.getDeclaredConstructors().length, 1);
        c.eq("public, of nothing", HullLine.class.getConstructors()[0].getParameterCount(), 0);
        c.yes("public, final", HullLine.class.getModifiers() == (Modifier.PUBLIC | Modifier.FINAL));
        int open = 0;
        for (Field f : HullLine.class.getDeclaredFields()) {
            open += Modifier.isPrivate(f.getModifiers()) ? 0 : 1;
        }
        c.eq("fields that are not private", open, 1);
    }

    private static void members() {
        Set<String> publicNames = new HashSet<>();
        for (String s : FACE) {
            publicNames.add(s.substring(s.indexOf(' ') + 1, s.indexOf('(')));
        }
        Class<?>[] inside = HullLine.class.getDeclaredClasses();
        c.yes("twelve classes at most", inside.length + 1 <= 12);
        fieldsOf(HullLine.class);
        methodsOf(HullLine.class, publicNames);
        for (Class<?> k : inside) {
            c.yes(k + " is private and static", (k.getModifiers() & (Modifier.PRIVATE | Modifier.STATIC))
                == (Modifier.PRIVATE | Modifier.STATIC));
            fieldsOf(k);
            methodsOf(k, publicNames);
        }
    }

    private static void fieldsOf(Class<?> k) {
        int own = 0;
        for (Field f : k.getDeclaredFields()) {
            if (Modifier.isStatic(f.getModifiers())) {
                c.yes(f + " is final", Modifier.isFinal(f.getModifiers()));
                c.yes(f + " is an int", f.getType() == int.class);
            } else {
                own++;
            }
        }
        c.yes(k + " has twenty fields at most", own <= 20);
    }

    private static void methodsOf(Class<?> k, Set<String> publicNames) {
        for (Method m : k.getDeclaredMethods()) {
            boolean ofFace = k == HullLine.class && !Modifier.isPrivate(m.getModifiers());
            c.yes(m + " takes seven at most", ofFace || m.getParameterCount() <= 7);
            c.yes(m + " has a name of its own", ofFace || !publicNames.contains(m.getName()));
        }
    }

    /** What is made, counted in bytes: far below what a run's room has, and nothing at all by a call that keeps nothing. */
    private static void room() {
        ThreadMXBean thread = (ThreadMXBean) ManagementFactory.getThreadMXBean();
        long before = thread.getCurrentThreadAllocatedBytes();
        HullLine x = fullLine();
        c.yes("a full line in 64 KiB", thread.getCurrentThreadAllocatedBytes() - before < 65536);
        before = thread.getCurrentThreadAllocatedBytes();
        for (int i = 0; i < 100; i++) {
            x.way(0, 0, 6, i, 0, 0);
        }
        c.yes("a hundred ways in 64 KiB", thread.getCurrentThreadAllocatedBytes() - before < 65536);
        before = thread.getCurrentThreadAllocatedBytes();
        for (int i = 0; i < 99; i++) {
            x.go(1440);
            x.feed(i, i, i, i, i);
            x.rules();
            x.lift(i % 6, i % 30);
            x.suspects();
        }
        c.yes("a hundred days in 8 KiB", thread.getCurrentThreadAllocatedBytes() - before < 8192);
    }

    private static HullLine fullLine() {
        HullLine x = new HullLine();
        for (int i = 0; i < 12; i++) {
            x.stop(4, 60, true);
        }
        for (int i = 0; i < 30; i++) {
            x.leg(i % 12, (i + 1 + i / 12) % 12, 50);
            x.bag(i % 12, (i + 1) % 12, 5, 5);
        }
        for (int i = 0; i < 6; i++) {
            x.boat(i, 1000, 9000, 100, 50, 1000, 500, 3);
        }
        for (int i = 0; i < 160; i++) {
            x.swell(i % 12, i, i % 10);
        }
        return x;
    }

    private static void text(String all) {
        String code = all.replaceAll("(?s)/\\*.*?\\*/", "").replaceAll("//[^\n]*", "");
        for (String f : FORBIDDEN) {
            Matcher m = Pattern.compile(f).matcher(code);
            c.no("the text has " + f, m.find());
        }
        Set<String> imports = new TreeSet<>();
        Matcher m = Pattern.compile("import ([\\w.]+);").matcher(code);
        while (m.find()) {
            imports.add(m.group(1));
        }
        c.yes("imports " + imports, imports.equals(new TreeSet<>(Arrays.asList("java.util.ArrayList", "java.util.List",
            "java.util.NoSuchElementException"))));
        Matcher thrown = Pattern.compile("\\bthrow\\b(?! new NoSuchElementException\\(\"[a-z ]+\"\\);)").matcher(code);
        c.no("another throw", thrown.find());
        longestMethod(code);
    }

    /** Lines between a method's opening, eight or four blanks in, and its closing brace at the same depth. */
    private static void longestMethod(String code) {
        String[] lines = code.split("\n");
        for (int i = 0; i < lines.length; i++) {
            Matcher m = Pattern.compile("^( {4}| {8})(?!if |while |for |switch )[\\w][\\w<>\\[\\] ]*\\(.*\\{$").matcher(lines[i]);
            if (!m.find() || lines[i].contains(" = ")) {
                continue;
            }
            int end = i;
            while (end < lines.length && !lines[end].equals(m.group(1) + "}")) {
                end++;
            }
            c.yes(lines[i].trim() + " has sixty lines at most", end - i <= 60);
        }
    }
}
