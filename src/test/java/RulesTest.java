import java.io.IOException;
import java.lang.management.ManagementFactory;
import java.lang.reflect.Constructor;
import java.lang.reflect.Field;
import java.lang.reflect.Method;
import java.lang.reflect.Modifier;
import java.nio.file.Files;
import java.nio.file.Path;
import java.util.ArrayList;
import java.util.Collections;
import java.util.HashSet;
import java.util.List;
import java.util.Set;
import java.util.regex.Matcher;
import java.util.regex.Pattern;

/** The face of the document, LANGUAGE.md as far as it can be seen from outside, and the room that calls take. */
final class RulesTest {
    private static final Check CHECK = new Check("RulesTest");
    private static final String[] FACE = {"int write(int)", "int wipe()", "int fault()", "int lay()", "int source(int)",
        "int tell(int,int,int)", "int stick(int,int)", "int tick(int)", "int undo()", "int stage(int,int)",
        "int done(int,int)", "int settle(int)", "int best(int)", "long ratio(int,int)", "int graded(int)",
        "int waits(int,int)", "int count(int)"};
    private static final String[] CONSTANTS = {"BAD", "NO", "FULL", "NONE", "ZERO"};
    private static final String[] FORBIDDEN = {"\\bthrow\\b", "\\bthrows\\b", "\\btry\\b", "\\bcatch\\b", "\\bfinally\\b",
        "\\bsynchronized\\b", "\\bassert\\b", "\\bimport\\b", "\\bpackage\\b", "->", "::", "\\bSystem\\.(?!arraycopy)",
        "Exact\\b", "\\bprotected\\b", "\\bvolatile\\b", "\\btransient\\b", "\\bnative\\b", "\\bObject\\b",
        "\\bstatic\\s*\\{", "while\\s*\\(\\s*true", "for\\s*\\(\\s*;", "[^\\x00-\\x7f]"};

    /** What of the library LANGUAGE.md's fourth rule lists and this class uses; a name more is looked up there first. */
    private static final Set<String> LIBRARY = Set.of("Math.min", "Math.max", "Math.abs", "Integer.bitCount", "System.arraycopy");
    private static final int MOST_LINES_OF_A_METHOD = 60;

    public static void main(String[] args) throws IOException {
        face();
        classesInside();
        source(args.length > 0 ? Path.of(args[0]) : Path.of("."));
        room();
        CHECK.end();
    }

    private static void face() {
        Class<TapCascade> c = TapCascade.class;
        CHECK.holds("the class is public and final", Modifier.isPublic(c.getModifiers()) && Modifier.isFinal(c.getModifiers()));
        Set<String> seen = new HashSet<>();
        Set<String> names = new HashSet<>();
        for (Method m : c.getDeclaredMethods()) {
            if (!Modifier.isPrivate(m.getModifiers())) {
                seen.add(signature(m));
                names.add(m.getName());
                CHECK.holds(m + " is public and no static one", m.getModifiers() == Modifier.PUBLIC);
            }
        }
        CHECK.holds("the methods are the document's: " + seen, seen.equals(Set.of(FACE)));
        for (Method m : c.getDeclaredMethods()) {
            CHECK.holds(m + " bears no public method's name", !Modifier.isPrivate(m.getModifiers()) || !names.contains(m.getName()));
        }
        Constructor<?>[] made = c.getDeclaredConstructors();
        CHECK.holds("one public constructor without arguments",
                made.length == 1 && made[0].getModifiers() == Modifier.PUBLIC && made[0].getParameterCount() == 0);
        Set<String> constants = new HashSet<>();
        for (Field f : c.getDeclaredFields()) {
            if (!Modifier.isPrivate(f.getModifiers())) {
                constants.add(f.getName());
            }
            CHECK.holds(f + " is final, if it is static", !Modifier.isStatic(f.getModifiers()) || Modifier.isFinal(f.getModifiers()));
        }
        CHECK.holds("the constants are the document's: " + constants, constants.equals(Set.of(CONSTANTS)));
    }

    private static String signature(Method m) {
        List<String> types = new ArrayList<>();
        for (Class<?> type : m.getParameterTypes()) {
            types.add(type.getName());
        }
        return m.getReturnType().getName() + " " + m.getName() + "(" + String.join(",", types) + ")";
    }

    private static void classesInside() {
        Class<?>[] inside = TapCascade.class.getDeclaredClasses();
        CHECK.holds("at most twelve classes", inside.length < 12);
        for (Class<?> c : inside) {
            int modifiers = c.getModifiers();
            CHECK.holds(c + " is static", Modifier.isStatic(modifiers));
            CHECK.holds(c + " is not public", !Modifier.isPublic(modifiers) && !Modifier.isProtected(modifiers));
            CHECK.holds(c + " has at most twenty fields", c.getDeclaredFields().length <= 20);
            for (Method m : c.getDeclaredMethods()) {
                CHECK.holds(m + " has at most seven parameters", m.getParameterCount() <= 7);
            }
        }
    }

    private static void source(Path root) throws IOException {
        String text = Files.readString(root.resolve("src/main/java/TapCascade.java"));
        String code = text.replaceAll("(?s)/\\*.*?\\*/", " ").replaceAll("//[^\n]*", " ").replaceAll("\"[^\"\n]*\"", "\"\"");
        for (String forbidden : FORBIDDEN) {
            Matcher m = Pattern.compile(forbidden).matcher(code);
            CHECK.holds("no " + forbidden, !m.find());
        }
        library(code);
        methodsAreShort(code);
    }

    private static void library(String code) {
        Matcher m = Pattern.compile("\\b(Math|Integer|Long|System|Arrays|String|Character|Boolean|Short|Byte|Double|Float|List)\\.(\\w+)")
                .matcher(code);
        while (m.find()) {
            CHECK.holds(m.group() + " is listed", LIBRARY.contains(m.group()));
        }
    }

    /** A method's head and its last brace stand at the same indent, four or eight. */
    private static void methodsAreShort(String code) {
        Matcher m = Pattern.compile("(?m)^( {4}| {8})(\\S[^\\n=]*\\)) \\{\\n(?s:(.*?))^\\1\\}$").matcher(code);
        int methods = 0;
        while (m.find()) {
            methods++;
            long lines = m.group(3).lines().count() + 2;
            CHECK.holds(m.group(2) + " is short: " + lines, lines <= MOST_LINES_OF_A_METHOD);
        }
        CHECK.holds("methods were found: " + methods, methods > FACE.length);
    }

    /** Whole runs of calls must fit the room: once warm, no call makes an object. */
    private static void room() {
        com.sun.management.ThreadMXBean bean = (com.sun.management.ThreadMXBean) ManagementFactory.getThreadMXBean();
        if (!bean.isThreadAllocatedMemorySupported()) {
            return;
        }
        List<TapCascade> objects = new ArrayList<>();
        for (int k = 0; k < 60; k++) {
            objects.add(new TapCascade());
        }
        long id = Thread.currentThread().getId();
        List<Long> taken = new ArrayList<>();
        for (TapCascade x : objects) {
            long ahead = bean.getThreadAllocatedBytes(id);
            callAll(x);
            taken.add(bean.getThreadAllocatedBytes(id) - ahead);
        }
        CHECK.due("bytes taken by all kinds of calls", Collections.min(taken), 0);
    }

    private static void callAll(TapCascade x) {
        x.write('s');
        x.fault();
        x.lay();
        x.wipe();
        x.source(900);
        x.tell(0, 0, 1010);
        x.tell(1, 1, 1003);
        x.tell(2, 2, 9);
        x.stick(3, 1);
        x.tick(50);
        for (int i = -1; i < 17; i++) {
            x.stage(0, i);
            x.settle(i);
            x.best(i);
            x.ratio(i, 0);
            x.graded(i);
            x.waits(i, 3);
            x.count(i);
            x.done(i, 0);
        }
        x.undo();
    }
}
