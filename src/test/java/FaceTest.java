import java.lang.reflect.Constructor;
import java.lang.reflect.Field;
import java.lang.reflect.Method;
import java.lang.reflect.Modifier;
import java.nio.file.Files;
import java.nio.file.Path;
import java.util.ArrayList;
import java.util.Arrays;
import java.util.List;
import java.util.Set;
import java.util.TreeSet;
import java.util.regex.Matcher;
import java.util.regex.Pattern;

/** The face as the document tells it, the rules of LANGUAGE.md that can be looked up, and what runs allocate. */
public final class FaceTest {
    private static final String[] FACE = {
        "int feed(int,int,int,int,int)", "boolean end(int)", "int law() IllegalArgumentException", "boolean free()",
        "int trace() IllegalArgumentException", "int fault()", "int ask(int) IllegalArgumentException",
        "int where(int) IllegalArgumentException", "int part(int,int) NoSuchElementException",
        "int at(int,int) NoSuchElementException", "int latest(int) NoSuchElementException", "int out(int)",
        "int estimate(int) IllegalArgumentException", "int place(int,int) IllegalArgumentException",
        "int counter(int,int) IllegalArgumentException", "int meets(int,int) IllegalArgumentException",
        "boolean noted(int) IllegalArgumentException", "int halve()",
        "boolean wins(int,int) IllegalArgumentException",
        "int tell(int,int) NoSuchElementException IllegalArgumentException", "boolean doorman(boolean)",
        "int again(int) IllegalArgumentException", "int best(boolean)", "int plain(int) IllegalArgumentException",
        "int ideal(int) IllegalArgumentException", "int enough(int)", "int needed(int,int) IllegalArgumentException",
        "int twin(int) IllegalArgumentException", "int history(int)", "int past(int) NoSuchElementException",
        "int asked(int) IllegalArgumentException", "int hot(int)", "int heat(int)", "int write()", "int octet(int)",
        "int keep()", "int back() IllegalStateException", "int count(int)"};
    private static int failures;

    public static void main(String[] args) throws Exception {
        told("face: methods", methods());
        told("face: members", members());
        told("face: classes inside", classesInside());
        told("rules: words", words());
        told("rules: lengths", lengths());
        told("rules: what runs allocate", allocations());
        System.exit(failures == 0 ? 0 : 1);
    }

    private static void told(String name, String wrong) {
        failures += wrong.isEmpty() ? 0 : 1;
        System.out.println(wrong.isEmpty() ? "ok " + name : "FAILED " + name + ": " + wrong);
    }

    private static String signature(Method m) {
        StringBuilder b = new StringBuilder(m.getReturnType() + " " + m.getName() + "(");
        b.append(String.join(",", Arrays.stream(m.getParameterTypes()).map(Class::getName).toList())).append(")");
        for (Class<?> e : m.getExceptionTypes()) {
            b.append(' ').append(e.getSimpleName());
        }
        return b.toString();
    }

    private static String methods() {
        Set<String> due = new TreeSet<>(List.of(FACE));
        Set<String> got = new TreeSet<>();
        for (Method m : AdmissionDesk.class.getDeclaredMethods()) {
            if (Modifier.isPublic(m.getModifiers())) {
                got.add(signature(m));
            }
        }
        return got.equals(due) ? "" : got + " due are " + due;
    }

    private static boolean isFace(String name) {
        return Arrays.stream(FACE).anyMatch(s -> s.contains(" " + name + "("));
    }

    private static String members() throws Exception {
        Class<?> desk = AdmissionDesk.class;
        List<String> wrong = new ArrayList<>();
        if (desk.getModifiers() != (Modifier.PUBLIC | Modifier.FINAL) || desk.getSuperclass() != Object.class) {
            wrong.add("the class itself");
        }
        for (Method m : desk.getDeclaredMethods()) {
            boolean isPublic = Modifier.isPublic(m.getModifiers());
            if (!isPublic && !Modifier.isPrivate(m.getModifiers()) || !isPublic && isFace(m.getName())) {
                wrong.add(m.getName());
            }
        }
        for (Field f : desk.getDeclaredFields()) {
            boolean isNone = f.getName().equals("NONE") && f.getModifiers()
                == (Modifier.PUBLIC | Modifier.STATIC | Modifier.FINAL);
            if (!isNone && !Modifier.isPrivate(f.getModifiers())) {
                wrong.add(f.getName());
            }
        }
        Constructor<?>[] made = desk.getDeclaredConstructors();
        if (made.length != 1 || made[0].getParameterCount() != 0 || !Modifier.isPublic(made[0].getModifiers())) {
            wrong.add("constructors");
        }
        return wrong.isEmpty() ? "" : wrong.toString();
    }

    private static String classesInside() {
        List<String> wrong = new ArrayList<>();
        Class<?>[] classes = AdmissionDesk.class.getDeclaredClasses();
        if (classes.length > 12) {
            wrong.add(classes.length + " classes");
        }
        for (Class<?> c : classes) {
            if (!Modifier.isStatic(c.getModifiers()) || Modifier.isPublic(c.getModifiers())) {
                wrong.add(c.getName());
            }
            int fields = 0;
            for (Field f : c.getDeclaredFields()) {
                fields += Modifier.isStatic(f.getModifiers()) ? 0 : 1;
                if (Modifier.isStatic(f.getModifiers()) && !Modifier.isFinal(f.getModifiers())) {
                    wrong.add(c.getName() + "." + f.getName());
                }
            }
            if (fields > 20) {
                wrong.add(c.getName() + " has " + fields + " fields");
            }
            for (Method m : c.getDeclaredMethods()) {
                if (isFace(m.getName()) || m.getParameterCount() > 7) {
                    wrong.add(c.getName() + "." + m.getName());
                }
            }
        }
        return wrong.isEmpty() ? "" : wrong.toString();
    }

    private static String source() throws Exception {
        return Files.readString(Path.of("src/main/java/AdmissionDesk.java"));
    }

    private static String words() throws Exception {
        String text = source().replaceAll("(?s)/\\*.*?\\*/", "").replaceAll("//[^\n]*", "")
            .replaceAll("\"[^\"\n]*\"", "\"\"");
        String[] forbidden = {"->", "::", "\\btry\\b", "\\bcatch\\b", "\\bfinally\\b", "\\bsynchronized\\b",
            "\\bassert\\b", "\\bpackage\\b", "\\bextends\\b", "\\bnull\\b", "\\bprotected\\b", "static \\{",
            "import (?!java\\.util\\.NoSuchElementException;)", "Exact\\b", "\\bSystem\\.(?!arraycopy)", "\\bMath\\.(?!max)",
            "new int\\[(?!most > 0 \\? most : 0\\]|ROWS \\* ROW_PLACES\\])", "\\binstanceof\\b", "while \\(true\\)",
            "[^\\x00-\\x7f]"};
        List<String> wrong = new ArrayList<>();
        for (String word : forbidden) {
            Matcher m = Pattern.compile(word).matcher(text);
            if (m.find()) {
                wrong.add(word);
            }
        }
        return wrong.isEmpty() ? "" : wrong.toString();
    }

    private static String lengths() throws Exception {
        List<String> wrong = new ArrayList<>();
        String[] lines = source().split("\n");
        int start = 0;
        for (int k = 0; k < lines.length; k++) {
            if (lines[k].length() > 120) {
                wrong.add("line " + (k + 1));
            }
            if (lines[k].matches(" {4,8}[a-zA-Z].*\\) (throws .*)?\\{")) {
                start = k;
            }
            if (lines[k].matches(" {4,8}\\}") && k - start > 60) {
                wrong.add("the method at line " + (start + 1));
            }
        }
        return wrong.isEmpty() ? "" : wrong.toString();
    }

    /** All calls of a run live in one room, so calls that answer should make nothing at all. */
    private static String allocations() {
        com.sun.management.ThreadMXBean bean =
            (com.sun.management.ThreadMXBean) java.lang.management.ManagementFactory.getThreadMXBean();
        long id = Thread.currentThread().getId();
        long most = 0;
        long made = 0;
        for (int turn = 0; turn < 3; turn++) {
            long before = bean.getThreadAllocatedBytes(id);
            AdmissionDesk x = new AdmissionDesk();
            made = bean.getThreadAllocatedBytes(id) - before;
            before = bean.getThreadAllocatedBytes(id);
            int sum = calls(x);
            most = bean.getThreadAllocatedBytes(id) - before + (sum == 0 ? 1 : 0);
        }
        return made < 60000 && most < 5000 ? "" : "an object has " + made + " bytes, its calls make " + most;
    }

    private static int calls(AdmissionDesk x) {
        int sum = 0;
        for (int n = 0; n < 30; n++) {
            sum += x.feed(0x28302d34, 0x30203530, 0x2d363029, 0x2a322020, 0x20202020) + x.trace();
            sum += x.feed(0x63616e64, 0x203e2076, 0x69637420, 0x20202020, 0x20202020) + x.law();
            sum += x.best(true) + x.ideal(20) + x.enough(30) + x.needed(1, 2) + x.twin(n) + x.past(3) + x.hot(3);
            sum += x.heat(2) + x.write() + x.keep() + x.back() + x.tell(0, 5 + n) + x.count(16);
        }
        return sum;
    }
}
