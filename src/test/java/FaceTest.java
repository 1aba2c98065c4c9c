import java.io.IOException;
import java.lang.reflect.Constructor;
import java.lang.reflect.Field;
import java.lang.reflect.Member;
import java.lang.reflect.Method;
import java.lang.reflect.Modifier;
import java.nio.file.Files;
import java.nio.file.Path;
import java.util.HashSet;
import java.util.Set;
import java.util.TreeSet;

/** The public face of the document, and those rules of LANGUAGE.md that can be seen from outside. */
public final class FaceTest {
    private static final Due due = new Due("FaceTest");
    private static final Path SOURCE = Path.of("src/main/java/WakingPagers.java");
    private static final String[] FACE = {
        "int code(int)", "int repair(int)", "int identity(int,int)", "int pager()", "int join(int,int)",
        "int load(long,int)", "int unload()", "int call(int,int)", "int waiting()", "int transmit(int)",
        "int bit(int)", "int flip(int)", "int hear(int,int)", "int kept(int)", "int message(int,int,int)",
        "int sign(int,int,int)", "long missed(int,int)", "int count(int,int)", "int desk(int,int,int)"};

    public static void main(String[] args) throws IOException {
        methodsOfTheFace();
        nothingElseIsSeen();
        staticFieldsAreFinal();
        sourceKeepsToTheLanguage();
        due.end();
    }

    private static void methodsOfTheFace() {
        Class<?> c = WakingPagers.class;
        due.holds("public final class", Modifier.isPublic(c.getModifiers()) && Modifier.isFinal(c.getModifiers()));
        Set<String> got = new TreeSet<>();
        Set<String> names = new HashSet<>();
        for (Method m : c.getDeclaredMethods()) {
            if (Modifier.isPublic(m.getModifiers())) {
                StringBuilder parameters = new StringBuilder();
                for (Class<?> p : m.getParameterTypes()) {
                    parameters.append(parameters.length() == 0 ? "" : ",").append(p.getName());
                }
                got.add(m.getReturnType().getName() + " " + m.getName() + "(" + parameters + ")");
                names.add(m.getName());
            }
        }
        due.holds("the public methods are those of the document: " + got, got.equals(new TreeSet<>(Set.of(FACE))));
        for (Class<?> any : WakingPagers.class.getDeclaredClasses()) {
            for (Method m : any.getDeclaredMethods()) {
                due.holds("no method inside is named " + m.getName(), !names.contains(m.getName()));
            }
        }
    }

    private static void nothingElseIsSeen() {
        Class<?> c = WakingPagers.class;
        for (Method m : c.getDeclaredMethods()) {
            isPublicOrPrivate(m);
        }
        for (Field f : c.getDeclaredFields()) {
            boolean isNone = f.getName().equals("NONE") && f.getType() == int.class;
            due.holds("field " + f.getName(), isNone == Modifier.isPublic(f.getModifiers()));
            isPublicOrPrivate(f);
        }
        due.is("constructors", c.getDeclaredConstructors().length, 1);
        for (Constructor<?> k : c.getDeclaredConstructors()) {
            due.is("parameters of the constructor", k.getParameterCount(), 0);
            due.holds("the constructor is public", Modifier.isPublic(k.getModifiers()));
        }
        for (Class<?> inside : c.getDeclaredClasses()) {
            int m = inside.getModifiers();
            due.holds(inside.getName() + " is static", Modifier.isStatic(m));
            due.holds(inside.getName() + " is hidden", !Modifier.isPublic(m) && !Modifier.isProtected(m));
        }
        due.holds("at most twelve classes", c.getDeclaredClasses().length < 12);
    }

    private static void isPublicOrPrivate(Member m) {
        boolean right = Modifier.isPublic(m.getModifiers()) || Modifier.isPrivate(m.getModifiers());
        due.holds(m.getName() + " is public or private", right);
    }

    private static void staticFieldsAreFinal() {
        fieldsOf(WakingPagers.class);
        for (Class<?> inside : WakingPagers.class.getDeclaredClasses()) {
            fieldsOf(inside);
        }
    }

    private static void fieldsOf(Class<?> c) {
        for (Field f : c.getDeclaredFields()) {
            int m = f.getModifiers();
            due.holds("static " + f.getName() + " is final", !Modifier.isStatic(m) || Modifier.isFinal(m));
        }
    }

    private static void sourceKeepsToTheLanguage() throws IOException {
        String code = Files.readString(SOURCE).replaceAll("(?s)/\\*.*?\\*/", "").replaceAll("//[^\n]*", "");
        String[] banned = {"->", "::", "\\bassert\\b", "\\bsynchronized\\b", "\\bfinally\\b", "\\bthrow\\b", "\\btry\\b",
            "\\bpackage\\b", "\\bstatic \\{", "\\bhashCode\\b", "\\btoString\\b", "\\bSystem\\.(?!arraycopy)", "\\bRandom\\b",
            "\\bvar\\b", "Exact\\b", "\\bprotected\\b", "\"", "\\bimport (?!java\\.util\\.Arrays;)"};
        for (String word : banned) {
            due.holds("the source is without " + word, !code.matches("(?s).*(?:" + word + ").*"));
        }
    }
}
