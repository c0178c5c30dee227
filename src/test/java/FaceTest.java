import java.lang.reflect.Constructor;
import java.lang.reflect.Field;
import java.lang.reflect.Method;
import java.lang.reflect.Modifier;
import java.nio.file.Files;
import java.nio.file.Path;
import java.util.ArrayList;
import java.util.Arrays;
import java.util.List;
import java.util.regex.Matcher;
import java.util.regex.Pattern;

/** The public face as the document has it, and those rules of LANGUAGE.md that a look at the class can tell. */
public final class FaceTest {
    private static final String[] FACE = {
        "int back(int)", "int changes(int)", "int clear()", "int count(int)", "int cuts(int,int)", "int days(int)",
        "int empties(int)", "int forget()", "int hears(int,int)", "int jar(int,int)", "int keep(int)",
        "int layer(int,int)", "int least(int,int,int)", "int lock(int)", "int mark(int,int)", "int minds(int,int)",
        "int now(int)", "int odds(int,int,int,int)", "int one(int,int)", "int plan(int,int,int,int)",
        "int reads(int,int)", "int saw(int)", "int sets(int)", "int shop()", "int type(int)", "int undo()",
        "int week(int,int)", "int wig(int)", "long trace()"};
    private static final String[] CONSTANTS = {"BAD=-1", "FULL=-3", "NO=-1000000", "NONE=-9", "STATE=-2"};
    private static final String[] BARRED = {
        "\\bthrow\\b", "\\btry\\b", "\\bcatch\\b", "\\bsynchronized\\b", "\\bassert\\b", "->", "::", "Exact\\b",
        "\\bSystem\\.(?!arraycopy)", "\\bArrays\\.(?!fill|copyOf|copyOfRange)", "\\bRandom\\b", "\\bThread\\b"};
    private static int wrong = 0;

    private static void check(boolean fine, String what) {
        if (!fine) {
            wrong++;
            System.out.println("not as due: " + what);
        }
    }

    public static void main(String[] args) throws Exception {
        face();
        members();
        source();
        System.out.println(wrong == 0 ? "the face is as due" : wrong + " faults of the face");
        if (wrong != 0) {
            System.exit(1);
        }
    }

    private static void face() throws Exception {
        Class<?> c = BarberJars.class;
        check(Modifier.isPublic(c.getModifiers()) && Modifier.isFinal(c.getModifiers()), "public final");
        List<String> methods = new ArrayList<>();
        for (Method m : c.getDeclaredMethods()) {
            if (!Modifier.isPrivate(m.getModifiers()) && !m.isSynthetic()) {
                check(Modifier.isPublic(m.getModifiers()) && !Modifier.isStatic(m.getModifiers()), m.toString());
                String all = m.toGenericString();
                methods.add(m.getReturnType() + " " + all.substring(all.indexOf(m.getName() + "(")));
            }
        }
        check(new ArrayList<>(methods).stream().sorted().toList().equals(Arrays.asList(FACE)), "the methods: " + methods);
        List<String> constants = new ArrayList<>();
        for (Field f : c.getDeclaredFields()) {
            if (!Modifier.isPrivate(f.getModifiers())) {
                check(Modifier.isStatic(f.getModifiers()) && Modifier.isFinal(f.getModifiers()), f.toString());
                constants.add(f.getName() + "=" + f.getInt(null));
            }
        }
        check(constants.stream().sorted().toList().equals(Arrays.asList(CONSTANTS)), "the constants: " + constants);
        Constructor<?>[] constructors = c.getDeclaredConstructors();
        check(constructors.length == 1 && constructors[0].getParameterCount() == 0
                && Modifier.isPublic(constructors[0].getModifiers()), "the constructor");
    }

    private static void members() {
        List<String> names = new ArrayList<>();
        for (String m : FACE) {
            names.add(m.substring(m.indexOf(' ') + 1, m.indexOf('(')));
        }
        List<Class<?>> classes = new ArrayList<>(Arrays.asList(BarberJars.class.getDeclaredClasses()));
        check(classes.size() + 1 <= 12, "at most twelve classes");
        for (Class<?> c : classes) {
            check(Modifier.isStatic(c.getModifiers()) && !Modifier.isPublic(c.getModifiers()), c + " is static, not public");
        }
        classes.add(BarberJars.class);
        for (Class<?> c : classes) {
            int fields = 0;
            for (Field f : c.getDeclaredFields()) {
                boolean fixed = Modifier.isStatic(f.getModifiers());
                check(!fixed || Modifier.isFinal(f.getModifiers()), f + " is final");
                fields += fixed ? 0 : 1;
            }
            check(fields <= 20, c + " has at most twenty fields");
            for (Constructor<?> made : c.getDeclaredConstructors()) {
                check(made.getParameterCount() == 0, made + " is handed nothing of the object that makes it");
            }
            for (Method m : c.getDeclaredMethods()) {
                check(m.getParameterCount() <= 7, m + " has at most seven parameters");
                check(Modifier.isPublic(m.getModifiers()) || !names.contains(m.getName()), m + " bears a name of the face");
            }
        }
    }

    private static void source() throws Exception {
        String all = Files.readString(Path.of("src/main/java/BarberJars.java"));
        String code = all.replaceAll("(?s)/\\*.*?\\*/", "").replaceAll("//[^\n]*", "");
        check(!code.contains("package "), "no package line");
        for (String barred : BARRED) {
            Matcher m = Pattern.compile(barred).matcher(code);
            check(!m.find(), "barred: " + barred);
        }
        check(code.lines().filter(l -> l.startsWith("import ")).allMatch(l -> l.equals("import java.util.Arrays;")), "imports");
    }
}
