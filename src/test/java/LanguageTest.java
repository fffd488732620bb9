import java.lang.reflect.Constructor;
import java.lang.reflect.Field;
import java.lang.reflect.Method;
import java.lang.reflect.Modifier;
import java.nio.file.Files;
import java.nio.file.Path;
import java.util.ArrayList;
import java.util.Arrays;
import java.util.HashSet;
import java.util.List;
import java.util.Set;
import java.util.TreeSet;
import java.util.regex.Matcher;
import java.util.regex.Pattern;

/** The rules of ../shared/LANGUAGE.md that a program can look at, for src/main/java/BogTown.java. */
public final class LanguageTest {
    private static final String[] FACE = {
        "int town(int,int,int,int)", "int ofHouse(int,int)", "int guest(int,int,int)", "int ofGuest(int,int)",
        "int lodge(int,int)", "int depth(int,int)", "int reach(int,int)", "int planks(int)", "int under(int)",
        "long open(int,int)", "int lodgings(int,int)", "int feast(int,int,int)", "int way(int,int,int)",
        "int reading(int,int,int)", "int back(int)", "int right()", "int unseen(int)", "int piles(int)",
        "int settles()", "int after(int,int)", "int sheet(int,int,int)", "int lose(int)", "int put(int,int,int)",
        "long cell(int,int,int)", "int copy(int,int,int,int,int)", "int tell(int)", "int knock(int)",
        "int as(int,int)", "int trace()", "int fault()", "int many(int)",
    };
    private static final String[] CONSTANTS = {"UNKNOWN", "OUTSIDE", "STATE", "FULL", "NONE", "LOST"};
    private static final String[] NOT_USED = {
        "\\bthrow\\b", "\\btry\\b", "\\bcatch\\b", "\\bsynchronized\\b", "\\bassert\\b", "\\bpackage\\b",
        "->", "::", "Exact\\b", "\\bhashCode\\b", "\\btoString\\b", "\\bprotected\\b", "\\bnative\\b",
        "\\bThread\\b", "\\bSystem\\.(?!arraycopy)", "\\bRandom\\b", "\\bimport\\b(?! java\\.util\\.(ArrayList|List|Arrays|Iterator);)",
        "\\bstatic \\{", "\\bfloat\\b", "\\bdouble\\b",
    };
    private static final Check c = new Check();

    private static String signature(Method m) {
        List<String> types = new ArrayList<>();
        for (Class<?> t : m.getParameterTypes()) types.add(t.getSimpleName());
        return m.getReturnType().getSimpleName() + " " + m.getName() + "(" + String.join(",", types) + ")";
    }

    private static void face() {
        Class<?> k = BogTown.class;
        c.holds("public and final", Modifier.isPublic(k.getModifiers()) && Modifier.isFinal(k.getModifiers()));
        Set<String> open = new TreeSet<>();
        Set<String> names = new HashSet<>();
        for (Method m : k.getDeclaredMethods()) {
            if (Modifier.isPublic(m.getModifiers())) {
                open.add(signature(m));
                names.add(m.getName());
            }
        }
        c.holds("the face: " + open, open.equals(new TreeSet<>(Arrays.asList(FACE))));
        Set<String> constants = new TreeSet<>();
        for (Field f : k.getDeclaredFields()) {
            int mods = f.getModifiers();
            if (Modifier.isPublic(mods)) constants.add(f.getName());
            else c.holds("private: " + f, Modifier.isPrivate(mods));
        }
        c.holds("the constants: " + constants, constants.equals(new TreeSet<>(Arrays.asList(CONSTANTS))));
        c.due("constructors", k.getDeclaredConstructors().length, 1);
        for (Constructor<?> made : k.getDeclaredConstructors()) {
            c.holds("public, of nothing", Modifier.isPublic(made.getModifiers()) && made.getParameterCount() == 0);
        }
        members(k, names);
        for (Class<?> inner : k.getDeclaredClasses()) {
            c.holds("static: " + inner, Modifier.isStatic(inner.getModifiers()));
            members(inner, names);
        }
        c.holds("some twelve classes", k.getDeclaredClasses().length <= 11);
    }

    private static void members(Class<?> k, Set<String> names) {
        int fields = 0;
        for (Field f : k.getDeclaredFields()) {
            if (!Modifier.isStatic(f.getModifiers())) fields++;
            else c.holds("final: " + f, Modifier.isFinal(f.getModifiers()));
        }
        c.holds("some twenty fields: " + k, fields <= 20);
        for (Method m : k.getDeclaredMethods()) {
            c.holds("seven parameters: " + m, m.getParameterCount() <= 7);
            boolean closed = Modifier.isPrivate(m.getModifiers());
            c.holds("private, or of the face: " + m, closed || k == BogTown.class);
            c.holds("no public one's name: " + m, !closed || !names.contains(m.getName()));
        }
    }

    private static String code() throws Exception {
        String all = Files.readString(Path.of("src/main/java/BogTown.java"));
        c.holds("signs 1 to 127", all.chars().allMatch(s -> s > 0 && s < 128));
        return all.replaceAll("(?s)/\\*.*?\\*/", "").replaceAll("//[^\n]*", "");
    }

    private static void words(String code) {
        for (String word : NOT_USED) {
            Matcher m = Pattern.compile(word).matcher(code);
            c.holds("not used: " + word, !m.find());
        }
    }

    private static void lengths(String code) {
        String[] lines = code.split("\n");
        Pattern head = Pattern.compile("^ {4,8}(public|private) [^=;]*\\) \\{$");
        for (int i = 0; i < lines.length; i++) {
            if (!head.matcher(lines[i]).matches()) continue;
            String end = lines[i].replaceAll("\\S.*", "") + "}";
            int n = 0;
            while (!lines[i + n].equals(end)) n++;
            c.holds("some sixty lines: " + lines[i], n < 60);
        }
    }

    public static void main(String[] args) throws Exception {
        face();
        String code = code();
        words(code);
        lengths(code);
        c.end();
    }
}
