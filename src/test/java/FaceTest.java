import java.io.IOException;
import java.lang.reflect.Constructor;
import java.lang.reflect.Field;
import java.lang.reflect.Method;
import java.lang.reflect.Modifier;
import java.nio.file.Files;
import java.nio.file.Path;
import java.util.ArrayList;
import java.util.HashSet;
import java.util.List;
import java.util.Set;
import java.util.TreeSet;
import java.util.regex.Matcher;
import java.util.regex.Pattern;

/** The public face, its constants, and what of the language rules can be seen from outside or from the text. */
public final class FaceTest {
    private static final String[] CALLS = {"int set(int,int)", "int visit(int,int,int,int,int,int)", "int drop(int)",
        "int van(int,int)", "int load(int,int,int)", "int ofVisit(int,int)", "int ofVan(int,int)",
        "int stock(int,int,int)", "int event(int,int,int)", "int count(int)", "int wanted(int)", "int share()",
        "long meanWay(int)", "int would(int,int,int,int,int,int)", "int withVan(int,int)", "int slowest()",
        "int put(long)", "int wipe()", "int fault()", "int carryOut()", "int undo()", "int save(int)",
        "int restore(int)"};
    private static final String[] CONSTANTS = {"NO_SUCH=-1", "BAD_VALUE=-2", "BAD_TEXT=-3", "TOO_MANY=-4",
        "NOT_POSSIBLE=-5", "NONE=-6", "PACE=0", "LAST=1", "SHIFT=2"};
    private static final String[] RULED_OUT = {"import ", "Float.", "Double.", "->", "::", "try", "catch", "throw",
        "synchronized", "assert ", "System.out", "Exact(", " package ", "finally", "record ", "@"};

    public static void main(String[] args) throws Exception {
        theClass();
        theMethods();
        theConstants();
        theClassesInside();
        theText();
        aRunMakesNoObjects();
        Due.finish();
    }

    private static void theClass() {
        int modifiers = VisitVans.class.getModifiers();
        Due.due("the class is public and final", Modifier.isPublic(modifiers) && Modifier.isFinal(modifiers));
        Constructor<?>[] constructors = VisitVans.class.getDeclaredConstructors();
        Due.due("constructors", constructors.length, 1);
        Due.due("the constructor is public", Modifier.isPublic(constructors[0].getModifiers()));
        Due.due("the constructor's parameters", constructors[0].getParameterCount(), 0);
    }

    private static void theMethods() {
        Set<String> due = new TreeSet<>(List.of(CALLS));
        Set<String> names = publicNames();
        Set<String> found = new TreeSet<>();
        for (Method method : VisitVans.class.getDeclaredMethods()) {
            if (Modifier.isPrivate(method.getModifiers())) {
                Due.due(method.getName() + " is no public name", !names.contains(method.getName()));
            } else {
                Due.due(method.getName() + " is public", Modifier.isPublic(method.getModifiers()));
                found.add(signature(method));
            }
        }
        Due.due("the methods are " + found, found.equals(due));
    }

    private static Set<String> publicNames() {
        Set<String> names = new HashSet<>();
        for (String call : CALLS) {
            names.add(call.substring(call.indexOf(' ') + 1, call.indexOf('(')));
        }
        return names;
    }

    private static String signature(Method method) {
        StringBuilder text = new StringBuilder();
        text.append(method.getReturnType().getName()).append(' ').append(method.getName()).append('(');
        for (int i = 0; i < method.getParameterCount(); i++) {
            text.append(i == 0 ? "" : ",").append(method.getParameterTypes()[i].getName());
        }
        return text.append(')').toString();
    }

    private static void theConstants() throws IllegalAccessException {
        Set<String> found = new TreeSet<>();
        for (Field field : VisitVans.class.getDeclaredFields()) {
            if (!Modifier.isPrivate(field.getModifiers())) {
                int modifiers = field.getModifiers();
                boolean constant = Modifier.isPublic(modifiers) && Modifier.isStatic(modifiers);
                Due.due(field.getName() + " is a constant", constant && Modifier.isFinal(modifiers));
                found.add(field.getName() + "=" + field.getInt(null));
            } else if (Modifier.isStatic(field.getModifiers())) {
                Due.due(field.getName() + " is final", Modifier.isFinal(field.getModifiers()));
            }
        }
        Due.due("the constants are " + found, found.equals(new TreeSet<>(List.of(CONSTANTS))));
    }

    private static void theClassesInside() {
        Class<?>[] inside = VisitVans.class.getDeclaredClasses();
        Due.due("at most twelve classes", inside.length < 12);
        for (Class<?> one : inside) {
            Due.due(one.getName() + " is static", Modifier.isStatic(one.getModifiers()));
            Due.due(one.getName() + " is private", Modifier.isPrivate(one.getModifiers()));
            for (Method method : one.getDeclaredMethods()) {
                String name = one.getName() + "." + method.getName();
                Due.due(name + "() is no public name", !publicNames().contains(method.getName()));
                Due.due(name + "() has at most seven parameters", method.getParameterCount() <= 7);
            }
        }
    }

    private static void theText() throws IOException {
        List<String> lines = Files.readAllLines(Path.of("src/main/java/VisitVans.java"));
        Pattern header = Pattern.compile("( {4}| {8})[a-zA-Z].*\\(.*\\) \\{");
        List<String> code = new ArrayList<>();
        for (String line : lines) {
            String bare = line.strip();
            boolean comment = bare.startsWith("//") || bare.startsWith("*") || bare.startsWith("/*");
            code.add(comment ? "" : line);
            Due.due("at most 120 signs: " + line, line.length() <= 120);
        }
        for (String ruledOut : RULED_OUT) {
            for (String line : code) {
                Due.due("no " + ruledOut + " in: " + line, !line.contains(ruledOut));
            }
        }
        for (int i = 0; i < code.size(); i++) {
            Matcher method = header.matcher(code.get(i));
            if (method.matches()) {
                int end = code.subList(i, code.size()).indexOf(method.group(1) + "}");
                Due.due("at most sixty lines: " + code.get(i), end > 0 && end < 60);
            }
        }
    }

    /** The room of a run is small: only the constructor makes objects. */
    private static void aRunMakesNoObjects() {
        com.sun.management.ThreadMXBean bean =
            (com.sun.management.ThreadMXBean) java.lang.management.ManagementFactory.getThreadMXBean();
        VisitVans vans = new VisitVans();
        long id = Thread.currentThread().getId();
        long text = Due.codes("w1/1;x0");
        bean.getThreadAllocatedBytes(id);
        callAll(vans, text);
        long before = bean.getThreadAllocatedBytes(id);
        for (int i = 0; i < 20; i++) {
            callAll(vans, text);
        }
        long bytes = bean.getThreadAllocatedBytes(id) - before;
        Due.due("20 times all calls made " + bytes + " bytes", bytes < 2000);
    }

    private static void callAll(VisitVans vans, long text) {
        vans.set(0, 3);
        vans.visit(1, 0, 0, 0, 0, 9);
        vans.van(1, 1);
        vans.load(0, 1, 1);
        vans.ofVisit(0, 6);
        vans.ofVan(0, 2);
        vans.stock(0, 0, 2);
        vans.event(0, 0, 0);
        vans.count(4);
        vans.wanted(0);
        vans.share();
        vans.meanWay(1);
        vans.would(1, 0, 0, 0, 0, 9);
        vans.withVan(1, 1);
        vans.slowest();
        vans.put(text);
        vans.fault();
        vans.carryOut();
        vans.save(0);
        vans.restore(0);
        vans.drop(0);
        vans.undo();
        vans.wipe();
    }
}
