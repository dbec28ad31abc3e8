import java.io.IOException;
import java.lang.reflect.Constructor;
import java.lang.reflect.Field;
import java.lang.reflect.Method;
import java.lang.reflect.Modifier;
import java.nio.file.Files;
import java.nio.file.Path;
import java.util.ArrayList;
import java.util.Arrays;
import java.util.List;
import java.util.TreeSet;

/** The public face, and what of LANGUAGE.md can be looked up by reflection or in the source. */
public final class FaceTest {
    private static final String[] FACE = {
        "int feed(int,int,int,int,int)", "int town(int)", "int fault()", "int count(int)", "int table(int,int)",
        "int level(int,int)", "int by()", "int put(int,int)", "int take(int)", "boolean change(int,int)",
        "int wedge(int,int)", "int saw(int,int)", "int supper()", "int years(int)", "int undo()", "int more()",
        "boolean without(int)", "int most(int)", "int row(int)", "long orders()", "int wedges()", "int when()",
        "int marriages()", "boolean marry(int,int)", "int nod(int,int)", "int fair()", "int out(int)",
        "int oneWedge()", "long lifted(int,int)", "int swap()", "int slack(int)", "int broken(int)", "int crooked()",
        "int top(int)", "int relief()", "int hungriest()", "int see(int,int)", "int which(int)", "int look()",
        "void forget()", "int game(int)", "int decades(int,int,int)", "void image()", "boolean restore()"};

    public static void main(String[] args) throws IOException {
        face();
        classesInside();
        source(Files.readString(Path.of("src/main/java/TableTower.java")));
        Check.end();
    }

    private static String told(Method m) {
        StringBuilder text = new StringBuilder(m.getReturnType().getName()).append(' ').append(m.getName()).append('(');
        String comma = "";
        for (Class<?> type : m.getParameterTypes()) {
            text.append(comma).append(type.getName());
            comma = ",";
        }
        return text.append(')').toString();
    }

    private static void face() {
        Class<?> c = TableTower.class;
        Check.that("public and final", c.getModifiers() == (Modifier.PUBLIC | Modifier.FINAL));
        TreeSet<String> names = new TreeSet<>();
        TreeSet<String> found = new TreeSet<>();
        for (Method m : c.getDeclaredMethods()) {
            if (Modifier.isPublic(m.getModifiers())) {
                found.add(told(m));
                names.add(m.getName());
                Check.that(m + " is an object's", !Modifier.isStatic(m.getModifiers()));
            } else {
                Check.that(m + " is private", Modifier.isPrivate(m.getModifiers()));
            }
        }
        Check.that("the methods are " + found, found.equals(new TreeSet<>(Arrays.asList(FACE))));
        for (Class<?> k : allClasses()) {
            for (Method m : k.getDeclaredMethods()) {
                boolean open = k == c && Modifier.isPublic(m.getModifiers());
                Check.that(m + " has a name of its own", open || !names.contains(m.getName()));
            }
        }
        Constructor<?>[] made = c.getDeclaredConstructors();
        Check.that("one constructor", made.length == 1 && made[0].getParameterCount() == 0
            && Modifier.isPublic(made[0].getModifiers()));
        List<String> open = new ArrayList<>();
        for (Field f : c.getDeclaredFields()) {
            if (!Modifier.isPrivate(f.getModifiers())) {
                open.add(Modifier.toString(f.getModifiers()) + " " + f.getType() + " " + f.getName());
            }
        }
        Check.that("the constants are " + open, open.equals(List.of("public static final int NONE")));
    }

    private static List<Class<?>> allClasses() {
        List<Class<?>> all = new ArrayList<>();
        all.add(TableTower.class);
        all.addAll(Arrays.asList(TableTower.class.getDeclaredClasses()));
        return all;
    }

    private static void classesInside() {
        Check.that("at most twelve classes", allClasses().size() <= 12);
        for (Class<?> k : allClasses()) {
            int fields = 0;
            for (Field f : k.getDeclaredFields()) {
                boolean fixed = Modifier.isStatic(f.getModifiers());
                Check.that(f + " is no changing static", !fixed || Modifier.isFinal(f.getModifiers()));
                fields += fixed ? 0 : 1;
            }
            Check.that(k + " has few fields", fields <= 20);
            Check.that(k + " is static", k == TableTower.class || Modifier.isStatic(k.getModifiers()));
            Check.that(k + " has no class inside", k == TableTower.class || k.getDeclaredClasses().length == 0);
            for (Method m : k.getDeclaredMethods()) {
                Check.that(m + " has few parameters", m.getParameterCount() <= 7);
                Check.that(m + " is written here", !m.isSynthetic());
            }
        }
    }

    private static void source(String text) {
        for (String word : new String[] {"->", "::", "catch", "finally", "Exact(", "synchronized", "assert ",
            "import java.util.*", "System.out", "Random", "currentTime", "nanoTime", "new int[][]", "package ", "static {"}) {
            Check.that("no " + word, !text.contains(word));
        }
        for (int i = 0; i < text.length(); i++) {
            char sign = text.charAt(i);
            Check.that("signs 10 and 32 to 126 alone", sign == '\n' || sign >= 32 && sign < 127);
        }
        Check.that("one import", text.split("\nimport ", -1).length + (text.startsWith("import ") ? 1 : 0) == 2);
        shortMethods(text.split("\n", -1));
    }

    /** A method begins at a line that ends in ') {' or 'Exception {' at an indent of 4 or 8, and ends at its brace. */
    private static void shortMethods(String[] lines) {
        int longest = 0;
        for (int i = 0; i < lines.length; i++) {
            int indent = lines[i].length() - lines[i].stripLeading().length();
            boolean head = lines[i].endsWith(") {") || lines[i].endsWith("Exception {");
            if (head && (indent == 4 || indent == 8)) {
                int end = i;
                String brace = " ".repeat(indent) + "}";
                while (end < lines.length - 1 && !lines[end].equals(brace)) {
                    end++;
                }
                longest = Math.max(longest, end - i + 1);
            }
        }
        Check.that("methods stay short: " + longest, longest > 5 && longest <= 60);
    }
}
