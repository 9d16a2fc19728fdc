import java.lang.reflect.Constructor;
import java.lang.reflect.Field;
import java.lang.reflect.Method;
import java.lang.reflect.Modifier;
import java.nio.file.Files;
import java.nio.file.Path;
import java.util.HashSet;
import java.util.Set;
import java.util.TreeSet;
import java.util.regex.Matcher;
import java.util.regex.Pattern;

/** The public face, the constants, and those rules of the language that can be looked up. */
public final class FaceTest {
    private static final String[] FACE = {
        "int type(int)", "int clear()", "int field()", "int cell(int,int)", "int person(int,int)", "int now(int)",
        "int walks(int,int)", "int stands(int,int)", "int rains()", "int lifts(int,int)", "int votes(int)",
        "int undo()", "int power(int,int)", "int best(int,int)", "int way(int,int)", "int odds(int,int,int,int)",
        "int found(int,int)", "int forget()", "int can(int)", "int ask()", "int rate(int,int)", "int keep(int)",
        "int back(int)", "int count(int)", "long trace()"};
    private static final String[] CONSTANTS = {"BAD -1", "STATE -2", "FULL -3", "NONE -9", "NO -1000000"};
    private static final String BANNED = "\\b(throw|try|catch|finally|synchronized|assert|volatile|transient|native"
        + "|System\\.(?!arraycopy)\\w+|Thread|Random|Object|float|double|equals|hashCode|toString|protected"
        + "|\\w+Exact)\\b|->|::|@|[^\\x00-\\x7f]";

    public static void main(String[] args) throws Exception {
        face();
        constants();
        classesInside();
        source();
        room();
        Due.end();
    }

    private static void yes(String what, boolean holds) {
        Due.due(what, holds ? 1 : 0, 1);
    }

    private static void face() {
        yes("the class is public and final", Modifier.isPublic(MudMoot.class.getModifiers())
            && Modifier.isFinal(MudMoot.class.getModifiers()));
        Constructor<?>[] makers = MudMoot.class.getDeclaredConstructors();
        yes("one public constructor without parameters",
            makers.length == 1 && Modifier.isPublic(makers[0].getModifiers()) && makers[0].getParameterCount() == 0);
        Set<String> due = new TreeSet<>(Set.of(FACE));
        Set<String> got = new TreeSet<>();
        for (Method m : MudMoot.class.getDeclaredMethods()) {
            if (!Modifier.isPrivate(m.getModifiers())) {
                got.add(told(m));
                yes(m + " is public and no static one", Modifier.isPublic(m.getModifiers())
                    && !Modifier.isStatic(m.getModifiers()));
            }
        }
        yes("the methods " + got + " are " + due, got.equals(due));
    }

    private static String told(Method m) {
        StringBuilder s = new StringBuilder(m.getReturnType().getName()).append(' ').append(m.getName()).append('(');
        for (Class<?> c : m.getParameterTypes()) {
            s.append(s.charAt(s.length() - 1) == '(' ? "" : ",").append(c.getName());
        }
        return s.append(')').toString();
    }

    private static void constants() throws Exception {
        Set<String> due = new TreeSet<>(Set.of(CONSTANTS));
        Set<String> got = new TreeSet<>();
        for (Field f : MudMoot.class.getDeclaredFields()) {
            if (!Modifier.isPrivate(f.getModifiers())) {
                got.add(f.getName() + " " + f.getInt(null));
                yes(f + " is a constant", f.getType() == int.class
                    && (f.getModifiers() & (Modifier.PUBLIC | Modifier.STATIC | Modifier.FINAL))
                        == (Modifier.PUBLIC | Modifier.STATIC | Modifier.FINAL));
            }
        }
        yes("the constants " + got + " are " + due, got.equals(due));
    }

    private static void classesInside() {
        Class<?>[] inside = MudMoot.class.getDeclaredClasses();
        yes("twelve classes at most", inside.length + 1 <= 12);
        Set<String> faceNames = new HashSet<>();
        for (String method : FACE) {
            faceNames.add(method.substring(method.indexOf(' ') + 1, method.indexOf('(')));
        }
        limits(MudMoot.class, Set.of());
        for (Class<?> c : inside) {
            yes(c + " is static", Modifier.isStatic(c.getModifiers()));
            yes(c + " is private or package-visible",
                (c.getModifiers() & (Modifier.PUBLIC | Modifier.PROTECTED)) == 0);
            limits(c, faceNames);
        }
        for (Method m : MudMoot.class.getDeclaredMethods()) {
            yes(m + " has a name of its own", !Modifier.isPrivate(m.getModifiers()) || !faceNames.contains(m.getName()));
        }
    }

    private static void limits(Class<?> c, Set<String> taken) {
        int fields = 0;
        for (Field f : c.getDeclaredFields()) {
            boolean fixed = Modifier.isStatic(f.getModifiers());
            fields += fixed ? 0 : 1;
            yes(f + " is final if static", !fixed || Modifier.isFinal(f.getModifiers()));
        }
        yes(c + " has twenty fields at most", fields <= 20);
        for (Method m : c.getDeclaredMethods()) {
            yes(m + " has seven parameters at most", m.getParameterCount() <= 7);
            yes(m + " has a name of its own", !taken.contains(m.getName()));
        }
    }

    private static void source() throws Exception {
        String source = Files.readString(Path.of("src/main/java/MudMoot.java"));
        String code = source.replaceAll("//[^\n]*|/\\*(?s:.*?)\\*/", "");
        Matcher banned = Pattern.compile(BANNED).matcher(code);
        yes("the source is without " + (banned.find() ? banned.group() : ""), !banned.reset().find());
        Matcher imports = Pattern.compile("import +([\\w.*]+)").matcher(code);
        while (imports.find()) {
            yes("import " + imports.group(1), Set.of("java.util.Arrays", "java.util.ArrayList", "java.util.List")
                .contains(imports.group(1)));
        }
        Matcher flags = Pattern.compile("boolean\\[\\] (\\w+)").matcher(code);
        while (flags.find()) {
            yes("Arrays has to do with arrays of numbers alone, not with " + flags.group(1),
                !Pattern.compile("Arrays\\.\\w+\\(" + flags.group(1) + "\\b").matcher(code).find());
        }
        yes("no package line", !Pattern.compile("^\\s*package\\b", Pattern.MULTILINE).matcher(code).find());
        Matcher bodies = Pattern.compile("(?m)^( {4}| {8})\\w[\\w\\[\\] ]*\\([^\n;]*\\) \\{\n(?s:.*?)\n\\1\\}").matcher(code);
        int count = 0;
        while (bodies.find()) {
            count++;
            yes("a method of sixty lines at most:\n" + bodies.group(), bodies.group().lines().count() <= 60);
        }
        yes("the methods are found", count > 60);
    }

    /** What is made, is made in the constructor: later calls make next to nothing. */
    private static void room() {
        com.sun.management.ThreadMXBean threads =
            (com.sun.management.ThreadMXBean) java.lang.management.ManagementFactory.getThreadMXBean();
        round(new MudMoot());
        MudMoot x = new MudMoot();
        long me = Thread.currentThread().getId();
        threads.getThreadAllocatedBytes(me);
        long before = threads.getThreadAllocatedBytes(me);
        for (int i = 0; i < 10; i++) {
            round(x);
        }
        long made = threads.getThreadAllocatedBytes(me) - before;
        yes("calls make " + made + " bytes", made < 20000);
    }

    private static void round(MudMoot x) {
        String text = "s2;p1 1 2 3;p2 2 3 4;f5 5 9;";
        for (int i = 0; i < text.length(); i++) {
            x.type(text.charAt(i));
        }
        x.field();
        x.walks(0, 1);
        x.stands(1, 2);
        x.rains();
        x.lifts(4, 4);
        x.votes(3);
        x.undo();
        x.keep(0);
        x.back(0);
        x.found(1, 3);
        for (int what = 0; what < 8; what++) {
            x.now(what);
            x.can(what);
            x.rate(what, 0);
            x.cell(22, what);
        }
        x.ask();
        x.power(0, 4);
        x.best(3, 2);
        x.way(0, 55);
        x.odds(22, 5, 5, 0);
    }
}
