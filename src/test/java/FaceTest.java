import java.io.IOException;
import java.lang.reflect.Constructor;
import java.lang.reflect.Field;
import java.lang.reflect.Method;
import java.lang.reflect.Modifier;
import java.nio.file.Files;
import java.nio.file.Path;
import java.util.HashSet;
import java.util.Set;
import java.util.TreeSet;
import java.util.regex.Matcher;
import java.util.regex.Pattern;

/** The public face, and the rules of LANGUAGE.md that a look at the class and its text can tell. */
public final class FaceTest {
    private static final String[] METHODS = {
        "int card(int,int,int)", "int power(int,int)", "int deck()", "int add(int,int)", "int drop(int,int)",
        "int swap(int,int,int)", "int at(int,int)", "int life(int)", "int play(int,int)", "int told(int,int,int)",
        "int table(int,int)", "int rings()", "int ring(int,int)", "long share(int,int)", "int live()",
        "int standing(int)", "int worth(int,int)", "int idle(int,int)", "int remedy(int,int)", "int count(int)"};
    private static final String[] FORBIDDEN = {
        "\\bthrow\\b", "\\btry\\b", "\\bcatch\\b", "\\bsynchronized\\b", "\\bassert\\b", "\\bimport\\b", "\\bpackage\\b",
        "->", "::", "\\bMIN_VALUE\\b", "\\bMAX_VALUE\\b", "Exact\\b", "\\bSystem\\b(?!\\.arraycopy)", "\\bstatic\\s*\\{"};
    private static final Due due = new Due();

    public static void main(String[] args) throws IOException {
        face();
        nestedClasses();
        String text = Files.readString(Path.of("src/main/java/DeckBalance.java"));
        String code = text.replaceAll("(?s)/\\*.*?\\*/", "").replaceAll("//[^\n]*", "");
        for (String word : FORBIDDEN) {
            due.is("in the text: " + word, Pattern.compile(word).matcher(code).find() ? 1 : 0, 0);
        }
        shortMethods(code);
        due.end();
    }

    private static void face() {
        Class<?> c = DeckBalance.class;
        due.is("public and final", c.getModifiers() & (Modifier.PUBLIC | Modifier.FINAL), Modifier.PUBLIC | Modifier.FINAL);
        Set<String> open = new TreeSet<>();
        Set<String> openNames = new HashSet<>();
        for (Method m : c.getDeclaredMethods()) {
            if (!Modifier.isPrivate(m.getModifiers())) {
                due.is(m + " is public and no more", m.getModifiers(), Modifier.PUBLIC);
                open.add(m.getReturnType() + " " + m.toString().replaceAll(".*\\.(\\w+\\(.*)", "$1"));
                openNames.add(m.getName());
            }
        }
        due.is("the methods: " + open, open.equals(new TreeSet<>(java.util.List.of(METHODS))) ? 1 : 0, 1);
        for (Method m : c.getDeclaredMethods()) {
            due.is(m + " bears no public name", Modifier.isPrivate(m.getModifiers()) && openNames.contains(m.getName()) ? 1 : 0, 0);
        }
        Constructor<?>[] made = c.getDeclaredConstructors();
        due.is("one constructor", made.length, 1);
        due.is("it is public", made[0].getModifiers(), Modifier.PUBLIC);
        due.is("it takes nothing", made[0].getParameterCount(), 0);
        fields(c);
    }

    private static void fields(Class<?> c) {
        Set<String> open = new TreeSet<>();
        int own = 0;
        for (Field f : c.getDeclaredFields()) {
            if (!Modifier.isPrivate(f.getModifiers())) {
                open.add(f.getName());
                due.is(f + " is a constant", f.getModifiers(), Modifier.PUBLIC | Modifier.STATIC | Modifier.FINAL);
            }
            due.is(f + " is final if static", Modifier.isStatic(f.getModifiers()) && !Modifier.isFinal(f.getModifiers()) ? 1 : 0, 0);
            own += Modifier.isStatic(f.getModifiers()) ? 0 : 1;
        }
        due.is("the constants: " + open, open.equals(Set.of("NONE", "BAD", "NOT", "FULL")) ? 1 : 0, 1);
        due.is("some twenty fields at most: " + own, own <= 20 ? 1 : 0, 1);
    }

    private static void nestedClasses() {
        Class<?>[] inside = DeckBalance.class.getDeclaredClasses();
        due.is("some twelve classes at most", inside.length <= 11 ? 1 : 0, 1);
        for (Class<?> c : inside) {
            due.is(c + " is static", Modifier.isStatic(c.getModifiers()) ? 1 : 0, 1);
            due.is(c + " is not open", c.getModifiers() & (Modifier.PUBLIC | Modifier.PROTECTED), 0);
            fieldsInside(c);
            for (Method m : c.getDeclaredMethods()) {
                due.is(m + " bears no public name", isPublicName(m.getName()) ? 1 : 0, 0);
            }
        }
    }

    private static void fieldsInside(Class<?> c) {
        int own = 0;
        for (Field f : c.getDeclaredFields()) {
            due.is(f + " is final if static", Modifier.isStatic(f.getModifiers()) && !Modifier.isFinal(f.getModifiers()) ? 1 : 0, 0);
            own += Modifier.isStatic(f.getModifiers()) ? 0 : 1;
        }
        due.is("some twenty fields at most in " + c, own <= 20 ? 1 : 0, 1);
    }

    private static boolean isPublicName(String name) {
        for (String method : METHODS) {
            if (method.contains(" " + name + "(")) {
                return true;
            }
        }
        return false;
    }

    private static void shortMethods(String code) {
        Matcher head = Pattern.compile("\n( {4,8})(?:[\\w\\[\\]]+ )+\\w+\\(([^)]*)\\) \\{\n").matcher(code);
        int seen = 0;
        while (head.find()) {
            seen++;
            String body = code.substring(head.end(), code.indexOf("\n" + head.group(1) + "}", head.end() - 1));
            due.is("lines of" + head.group().trim(), body.lines().count() <= 60 ? 1 : 0, 1);
            due.is("parameters of" + head.group().trim(), head.group(2).split(",").length <= 7 ? 1 : 0, 1);
        }
        due.is("methods were seen", seen > 40 ? 1 : 0, 1);
    }
}
