import java.io.IOException;
import java.lang.reflect.Constructor;
import java.lang.reflect.Field;
import java.lang.reflect.Method;
import java.lang.reflect.Modifier;
import java.nio.file.Files;
import java.nio.file.Path;
import java.util.ArrayList;
import java.util.Arrays;
import java.util.Collections;
import java.util.List;
import java.util.regex.Pattern;

/** The public face, and those rules of LANGUAGE.md that can be seen from outside or in the signs of the file. */
public final class FaceTest {
    private static final String[] FACE = {
        "int sign(int)", "boolean end(int)", "int songs()", "int hearers()", "int rule()",
        "int hearer(int,int) NoSuchElementException", "int worth(int)", "int sheet(int,int,int,int)", "int nights(int)",
        "int comes(int)", "int hum(int,int)", "int stake(int)", "int gain(int)", "int advance(int)", "int spring()",
        "int undo()", "int tonight()", "int later(int)", "int enough(int)", "int drains()", "int hears(int,int)",
        "int quiet(int)", "int admits(int)", "int plans(int)", "int fills()", "int order()", "int raises(int)",
        "int grows(int,int)", "int adds(int)", "int nearest(int)", "int awards(int)", "int envy()",
        "int bold(int,int,int,int)", "int notes(int,int,int)", "int look(int,int)", "int forget()", "int laws()",
        "int sure()", "int tries()", "int sings(int,int,int)", "int counts(int,int,int)", "int told(int,int)",
        "int deny()", "int fits()", "int ask()", "int rests(int,int,int)", "int law()", "int years(int,int)",
        "boolean keep(int)", "boolean again(int)", "int count(int)", "long row(int) NoSuchElementException",
    };
    private static final String[] RULED_OUT = {
        "->", "::", "\\bcatch\\b", "\\btry\\b", "\\bfinally\\b", "\\bsynchronized\\b", "\\bassert\\b", "\\bstatic \\{",
        "\\bthreadlocal\\b", "\\bMath\\.\\w+Exact\\b", "\\bString\\.format\\b", "\\bSystem\\.(?!arraycopy)", "\\bprotected\\b",
        "\\bdouble\\b", "\\bfloat\\b", "\\bvar\\b", "\\bhashCode\\b", "\\btoString\\b", "\\bwhile \\(true\\)", "for \\(;;\\)",
    };
    private static int wrong;

    public static void main(String[] args) throws IOException {
        face();
        nested();
        source();
        System.out.println(wrong == 0 ? "the face is as due" : wrong + " things of the face are not as due");
        if (wrong != 0) {
            System.exit(1);
        }
    }

    private static void due(String what, Object got, Object want) {
        if (!got.equals(want)) {
            wrong++;
            System.out.println(what + " is " + got + ", due is " + want);
        }
    }

    private static void face() {
        Class<HeldInTrust> c = HeldInTrust.class;
        due("public and final", Modifier.isPublic(c.getModifiers()) && Modifier.isFinal(c.getModifiers()), true);
        due("package", c.getPackageName(), "");
        List<String> methods = new ArrayList<>();
        List<String> names = new ArrayList<>();
        List<String> hidden = new ArrayList<>();
        for (Method m : c.getDeclaredMethods()) {
            if (Modifier.isPublic(m.getModifiers())) {
                methods.add(told(m));
                names.add(m.getName());
            } else {
                due(m.getName() + " is private", Modifier.isPrivate(m.getModifiers()), true);
                hidden.add(m.getName());
            }
            due(m.getName() + " takes seven at most", m.getParameterCount() <= 7, true);
        }
        Collections.sort(methods);
        List<String> face = new ArrayList<>(Arrays.asList(FACE));
        Collections.sort(face);
        due("the methods", methods, face);
        hidden.retainAll(names);
        due("private methods with a public name", hidden.toString(), "[]");
        Constructor<?>[] made = c.getDeclaredConstructors();
        due("constructors", made.length, 1);
        due("the constructor", Modifier.isPublic(made[0].getModifiers()) && made[0].getParameterCount() == 0, true);
        for (Field f : c.getDeclaredFields()) {
            boolean none = f.getName().equals("NONE");
            due(f.getName() + " is hidden", Modifier.isPrivate(f.getModifiers()), !none);
            due(f.getName() + " is final if static", !Modifier.isStatic(f.getModifiers()) || Modifier.isFinal(f.getModifiers()), true);
        }
    }

    private static String told(Method m) {
        StringBuilder s = new StringBuilder();
        s.append(m.getReturnType().getSimpleName()).append(' ').append(m.getName()).append('(');
        for (int i = 0; i < m.getParameterCount(); i++) {
            s.append(i > 0 ? "," : "").append(m.getParameterTypes()[i].getSimpleName());
        }
        s.append(')');
        for (Class<?> e : m.getExceptionTypes()) {
            s.append(' ').append(e.getSimpleName());
        }
        return s.toString();
    }

    private static void nested() {
        Class<?>[] inside = HeldInTrust.class.getDeclaredClasses();
        due("some twelve classes", inside.length <= 11, true);
        for (Class<?> c : inside) {
            due(c.getName() + " is static", Modifier.isStatic(c.getModifiers()), true);
            due(c.getName() + " is private", Modifier.isPrivate(c.getModifiers()), true);
            int fields = 0;
            for (Field f : c.getDeclaredFields()) {
                fields += Modifier.isStatic(f.getModifiers()) ? 0 : 1;
            }
            due(c.getName() + " has twenty fields at most", fields <= 20, true);
        }
    }

    private static void source() throws IOException {
        List<String> lines = Files.readAllLines(Path.of("src/main/java/HeldInTrust.java"));
        int begun = -1;
        for (int i = 0; i < lines.size(); i++) {
            String line = lines.get(i);
            for (String out : RULED_OUT) {
                due("line " + (i + 1) + " has " + out, Pattern.compile(out).matcher(line).find(), false);
            }
            if (line.startsWith("import")) {
                due("import", line, "import java.util.NoSuchElementException;");
            }
            for (int j = 0; j < line.length(); j++) {
                due("signs of line " + (i + 1) + " are 1 to 127", line.charAt(j) < 128, true);
            }
            if (line.matches(" {4,8}[A-Za-z].*\\) (throws NoSuchElementException )?\\{")) {
                begun = i;
            }
            if (begun >= 0 && line.matches(" {4,8}\\}")) {
                due("lines of the method that ends at " + (i + 1) + " are some sixty at most", i - begun <= 60, true);
                begun = -1;
            }
        }
    }
}
