import java.io.IOException;
import java.lang.reflect.Constructor;
import java.lang.reflect.Field;
import java.lang.reflect.Method;
import java.lang.reflect.Modifier;
import java.nio.file.Files;
import java.nio.file.Path;
import java.util.Set;
import java.util.TreeSet;
import java.util.regex.Matcher;
import java.util.regex.Pattern;

/** The class's face is the document's and no more, and its text keeps to LANGUAGE.md. */
public final class FaceTest {
    private static final String[] FACE = {
        "int state(int)", "int feed(int,int,int,int,int)", "boolean end(int)", "int text(int,int)",
        "int fault(int)", "int after(int,int,int,int)", "int thinks(int,int,int,int)",
        "int here(int,int,int)", "int question(int,int,int,int,int)", "int says(int,int)",
        "int child(int,int,int,int)", "int weight(int,int,int,int)", "int ask(int,int,int)",
        "int told(int,int,int,int)", "int answer(int,int)", "int chance(int,int,int,int,int)",
        "int parted(int,int)", "int fewest(int)", "int make(int,int,int)", "int odds(int,int)",
        "int need(int,int)", "int pulls(int,int)", "int beside(int)", "int eyes(int,int)",
        "int way(int)", "int house(int,int)", "int houses(int)", "int sorts(int,int)",
        "int curve(int,int)", "int score(int)", "int next(int,int,int,int,int)",
        "boolean image(boolean)", "int look(int)"
    };

    private FaceTest() {
    }

    public static void main(String[] args) throws IOException {
        Check.at("face");
        members();
        insideClasses();
        fewFields(WhereShe.class);
        String text = Files.readString(Path.of("src/main/java/WhereShe.java"));
        source(text);
        shortMethods(text);
        Check.close();
    }

    private static String signature(Method m) {
        StringBuilder s = new StringBuilder();
        s.append(m.getReturnType().getName()).append(' ').append(m.getName()).append('(');
        for (int i = 0; i < m.getParameterCount(); i++) {
            s.append(i == 0 ? "" : ",").append(m.getParameterTypes()[i].getName());
        }
        return s.append(')').toString();
    }

    private static void members() {
        Class<?> c = WhereShe.class;
        Check.due("final", Modifier.isFinal(c.getModifiers()), true);
        Set<String> face = new TreeSet<>(Set.of(FACE));
        Set<String> names = new TreeSet<>();
        Set<String> found = new TreeSet<>();
        for (Method m : c.getDeclaredMethods()) {
            if (!Modifier.isPrivate(m.getModifiers())) {
                found.add(signature(m));
                names.add(m.getName());
            }
        }
        Check.due("the face's methods " + found, found.equals(face), true);
        for (Method m : c.getDeclaredMethods()) {
            if (Modifier.isPrivate(m.getModifiers())) {
                Check.due("a private name " + m.getName(), names.contains(m.getName()), false);
            }
        }
        for (Field f : c.getDeclaredFields()) {
            boolean open = !Modifier.isPrivate(f.getModifiers());
            Check.due("an open field " + f.getName(), open, f.getName().equals("NONE"));
            boolean still = Modifier.isStatic(f.getModifiers());
            Check.due("final " + f.getName(), !still || Modifier.isFinal(f.getModifiers()), true);
        }
        Constructor<?>[] makers = c.getDeclaredConstructors();
        Check.due("constructors", makers.length, 1);
        Check.due("its parameters", makers[0].getParameterCount(), 0);
        Check.due("NONE", WhereShe.NONE, -1);
    }

    private static void insideClasses() {
        Set<String> names = new TreeSet<>();
        for (Method m : WhereShe.class.getDeclaredMethods()) {
            if (Modifier.isPublic(m.getModifiers())) {
                names.add(m.getName());
            }
        }
        Class<?>[] inside = WhereShe.class.getDeclaredClasses();
        Check.due("few classes", inside.length <= 11, true);
        for (Class<?> c : inside) {
            Check.due("static " + c, Modifier.isStatic(c.getModifiers()), true);
            Check.due("not public " + c, Modifier.isPublic(c.getModifiers()), false);
            fewFields(c);
            for (Method m : c.getDeclaredMethods()) {
                Check.due("a name of the face in " + c + ": " + m.getName(), names.contains(m.getName()), false);
                Check.due("parameters of " + m, m.getParameterCount() <= 7, true);
            }
        }
    }

    private static void fewFields(Class<?> c) {
        int many = 0;
        for (Field f : c.getDeclaredFields()) {
            many += Modifier.isStatic(f.getModifiers()) ? 0 : 1;
        }
        Check.due("fields of " + c + ": " + many, many <= 20, true);
    }

    /** A method begins with a line that ends with { and ends with a } as far to the left. */
    private static void shortMethods(String text) {
        String[] lines = text.split("\n");
        for (int i = 0; i < lines.length; i++) {
            if (lines[i].matches(" {4,8}[a-zA-Z][^=;]*\\(.*\\) \\{") && !lines[i].matches(" *(if|for|while|switch).*")) {
                String shut = lines[i].replaceAll("[^ ].*", "") + "}";
                int end = i;
                while (end < lines.length && !lines[end].equals(shut)) {
                    end++;
                }
                Check.due("lines of" + lines[i] + " " + (end - i), end - i <= 60, true);
            }
        }
    }

    private static void source(String text) {
        String code = text.replaceAll("(?s)/\\*.*?\\*/", " ").replaceAll("//[^\n]*", " ");
        String[] forbidden = {
            "\\bthrow\\b", "\\bthrows\\b", "\\btry\\b", "\\bcatch\\b", "\\bsynchronized\\b",
            "\\bassert\\b", "->", "::", "\\bpackage\\b", "\\bprotected\\b", "Exact\\(", "\\bvar\\b",
            "\\bdouble\\b", "\\bfloat\\b", "@", "\\bRandom\\b", "\\bThread\\b", "\\bObject\\b",
            "System\\.(?!arraycopy)", "import (?!java\\.util\\.Arrays;)", "\"\\s*\\+", "\\+\\s*\""
        };
        for (String word : forbidden) {
            Matcher m = Pattern.compile(word).matcher(code);
            Check.due("in the source: " + word, m.find(), false);
        }
        for (int i = 0; i < text.length(); i++) {
            if (text.charAt(i) > 126) {
                Check.due("a sign beyond 126 at " + i, 1, 0);
            }
        }
        Check.due("imports", Pattern.compile("import ").matcher(code).results().count(), 1);
        // New objects are made where an object of the class is made, and nowhere else.
        Matcher made = Pattern.compile("(?m)^.*\\bnew\\b.*$").matcher(code);
        while (made.find()) {
            String line = made.group();
            boolean field = line.contains("final ") && line.contains("=") || line.contains("this.cells =");
            Check.due("an object made by a call: " + line.trim(), field, true);
        }
    }
}
