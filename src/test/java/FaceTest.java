import java.io.IOException;
import java.lang.reflect.Constructor;
import java.lang.reflect.Field;
import java.lang.reflect.Method;
import java.lang.reflect.Modifier;
import java.nio.file.Files;
import java.nio.file.Path;
import java.util.Set;
import java.util.TreeSet;
import java.util.regex.Matcher;
import java.util.regex.Pattern;

/** The public face, and those rules of LANGUAGE.md that can be seen without reading the code. */
public final class FaceTest {
    private static final Due DUE = new Due("FaceTest");
    private static final String[] METHODS = {
        "int sign(int)", "int signs(long, int)", "int draw(int, int, int)", "int sets(int, int)", "int empties()",
        "int drop()", "int at(int)", "int guess()", "int was(int, int)", "int node(int, int, int)", "int cost()",
        "int costBy(int, int)", "int best(int)", "int follows(int)", "int tree(int)", "int leaf(int, int)",
        "int written(int)", "int reads(int, int)", "int type(int)", "int clear()", "int told()", "int back()",
        "int count(int)", "long digest()"};
    private static final String[] FORBIDDEN = {
        "throw", "throws", "try", "catch", "synchronized", "assert", "import", "package", "protected", "Exact\\w*",
        "System", "Thread", "Random", "Object", "->", "::"};

    public static void main(String[] args) throws IOException {
        constants();
        members();
        methods();
        source(Files.readString(Path.of("src/main/java/TreeOdds.java")));
        DUE.end();
    }

    private static void constants() {
        DUE.is("NONE", TreeOdds.NONE, -1);
        DUE.is("BAD", TreeOdds.BAD, -2);
        DUE.is("NO", TreeOdds.NO, -3);
        DUE.is("FULL", TreeOdds.FULL, -4);
    }

    private static void members() {
        int own = Modifier.PUBLIC | Modifier.FINAL;
        DUE.is("public and final", TreeOdds.class.getModifiers() & own, own);
        DUE.is("constructors", TreeOdds.class.getDeclaredConstructors().length, 1);
        for (Constructor<?> c : TreeOdds.class.getDeclaredConstructors()) {
            DUE.is("the constructor", Modifier.isPublic(c.getModifiers()) ? c.getParameterCount() : -1, 0);
        }
        int constants = 0;
        for (Field f : TreeOdds.class.getDeclaredFields()) {
            if (Modifier.isPublic(f.getModifiers())) constants++;
            else DUE.is("private: " + f.getName(), Modifier.isPrivate(f.getModifiers()) ? 1 : 0, 1);
            if (Modifier.isStatic(f.getModifiers())) DUE.is("final: " + f.getName(), Modifier.isFinal(f.getModifiers()) ? 1 : 0, 1);
        }
        DUE.is("public constants", constants, 4);
        Class<?>[] inside = TreeOdds.class.getDeclaredClasses();
        DUE.is("twelve classes at most", inside.length <= 12 ? 1 : 0, 1);
        for (Class<?> c : inside) {
            DUE.is("static: " + c.getName(), Modifier.isStatic(c.getModifiers()) ? 1 : 0, 1);
            DUE.is("not public: " + c.getName(), Modifier.isPublic(c.getModifiers()) ? 1 : 0, 0);
            sizes(c);
        }
        sizes(TreeOdds.class);
    }

    private static void sizes(Class<?> c) {
        int fields = 0;
        for (Field f : c.getDeclaredFields()) fields += Modifier.isStatic(f.getModifiers()) ? 0 : 1;
        DUE.yes("twenty fields at most: " + c.getName(), fields <= 20);
        for (Method m : c.getDeclaredMethods()) DUE.yes("seven parameters at most: " + m, m.getParameterCount() <= 7);
    }

    private static void methods() {
        Set<String> due = new TreeSet<>(), names = new TreeSet<>(), got = new TreeSet<>();
        for (String m : METHODS) {
            due.add(m);
            names.add(m.substring(m.indexOf(' ') + 1, m.indexOf('(')));
        }
        for (Method m : TreeOdds.class.getDeclaredMethods()) {
            if (Modifier.isPublic(m.getModifiers())) got.add(shape(m));
            else DUE.is("private, another name: " + m.getName(),
                Modifier.isPrivate(m.getModifiers()) && !names.contains(m.getName()) ? 1 : 0, 1);
        }
        for (Class<?> c : TreeOdds.class.getDeclaredClasses()) {
            for (Method m : c.getDeclaredMethods()) DUE.is("another name: " + m.getName(), names.contains(m.getName()) ? 1 : 0, 0);
        }
        DUE.is("the face's methods " + got, got.equals(due) ? 1 : 0, 1);
    }

    private static String shape(Method m) {
        StringBuilder s = new StringBuilder(m.getReturnType() + " " + m.getName() + "(");
        for (int i = 0; i < m.getParameterCount(); i++) s.append(i == 0 ? "" : ", ").append(m.getParameterTypes()[i]);
        return s.append(")").toString();
    }

    private static void source(String text) {
        String code = text.replaceAll("(?s)/\\*.*?\\*/", "").replaceAll("//[^\n]*", "");
        for (String word : FORBIDDEN) {
            String whole = Character.isLetter(word.charAt(0)) ? "\\b" + word + "\\b" : word;
            Matcher m = Pattern.compile(whole).matcher(code);
            DUE.is("no " + word, m.find() ? 1 : 0, 0);
        }
    }
}
