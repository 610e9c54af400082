import java.lang.reflect.Array;
import java.lang.reflect.Constructor;
import java.lang.reflect.Field;
import java.lang.reflect.Method;
import java.lang.reflect.Modifier;
import java.nio.charset.StandardCharsets;
import java.nio.file.Files;
import java.nio.file.Path;
import java.util.ArrayDeque;
import java.util.ArrayList;
import java.util.Arrays;
import java.util.Collections;
import java.util.Deque;
import java.util.IdentityHashMap;
import java.util.List;
import java.util.Set;
import java.util.TreeSet;

/** The rules of LANGUAGE.md that can be seen from outside: the face, what the text may hold, how much an object takes. */
public final class LanguageTest {
    private static final Due DUE = new Due();
    private static final Path SOURCE = Path.of("src/main/java/DeadPacks.java");
    private static final String FACE = "about(int,int) again() balance(int) bestBy(int) bestMend(int) cell(int) check() "
            + "count(int) days(int) end(int) ends(int) fall(int,int) fault() feed(int,int,int,int,int) held(int,int) house() "
            + "image(int) inPack(int,int) lean(int,int) lies(int) life(int) lost() meets(int) mend(int,int,int,int) "
            + "most(int,int,int) order() orderAt(int) pack(int,int) read(int,int,int,int) rest(int,int,int,int) restore(int) "
            + "row(int,int,int) rowAt(int) rows(int) rowsBy(int) rule() share(int) shareAt(int) shorted(int) swapAt(int) "
            + "swaps(int) swapsBy(int) welds()";

    public static void main(String[] args) throws Exception {
        face();
        classes();
        text();
        room();
        DUE.finish();
    }

    private static void good(String what, boolean is) {
        DUE.is(what, is, true);
    }

    private static String told(Method m) {
        List<String> types = new ArrayList<>();
        for (Class<?> c : m.getParameterTypes()) {
            types.add(c.getSimpleName());
        }
        return m.getName() + "(" + String.join(",", types) + ")";
    }

    private static void face() {
        Set<String> open = new TreeSet<>();
        Set<String> openNames = new TreeSet<>();
        for (Method m : DeadPacks.class.getDeclaredMethods()) {
            if (Modifier.isPublic(m.getModifiers())) {
                open.add(told(m));
                openNames.add(m.getName());
                boolean is = Arrays.asList("end", "mend", "image", "restore").contains(m.getName());
                good("the type of " + told(m), m.getReturnType() == (is ? boolean.class : int.class));
                boolean throwing = Arrays.asList("lean", "about", "fall", "row").contains(m.getName());
                DUE.is("what " + told(m) + " throws", m.getExceptionTypes().length, throwing ? 1 : 0);
            }
        }
        good("the face is " + open, open.equals(new TreeSet<>(Arrays.asList(FACE.split(" ")))));
        good("public and final", Modifier.isPublic(DeadPacks.class.getModifiers())
                && Modifier.isFinal(DeadPacks.class.getModifiers()));
        for (Method m : DeadPacks.class.getDeclaredMethods()) {
            boolean isOpen = Modifier.isPublic(m.getModifiers());
            good("private: " + m, isOpen || Modifier.isPrivate(m.getModifiers()) || m.isSynthetic());
            good("no public one's name: " + m, isOpen || !openNames.contains(m.getName()));
        }
        for (Field f : DeadPacks.class.getDeclaredFields()) {
            good("private: " + f, Modifier.isPrivate(f.getModifiers()) || f.getName().equals("NONE"));
        }
        for (Constructor<?> c : DeadPacks.class.getDeclaredConstructors()) {
            good("the constructor", Modifier.isPublic(c.getModifiers()) && c.getParameterCount() == 0);
        }
    }

    private static void classes() {
        List<Class<?>> all = new ArrayList<>(Arrays.asList(DeadPacks.class.getDeclaredClasses()));
        for (Class<?> c : all) {
            good("not public, static: " + c, !Modifier.isPublic(c.getModifiers()) && Modifier.isStatic(c.getModifiers()));
        }
        all.add(DeadPacks.class);
        good("twelve classes at most", all.size() <= 12);
        for (Class<?> c : all) {
            int fields = 0;
            for (Field f : c.getDeclaredFields()) {
                boolean fixed = Modifier.isStatic(f.getModifiers());
                good("static is final: " + f, !fixed || Modifier.isFinal(f.getModifiers()));
                fields += fixed ? 0 : 1;
            }
            good("twenty fields at most: " + c + " has " + fields, fields <= 20);
            for (Method m : c.getDeclaredMethods()) {
                good("seven parameters at most: " + m, m.getParameterCount() <= 7);
            }
        }
    }

    private static void text() throws Exception {
        String source = Files.readString(SOURCE, StandardCharsets.ISO_8859_1);
        good("signs 10 and 32 to 126 alone", source.matches("[\\n -~]*"));
        String code = source.replaceAll("(?s)/\\*.*?\\*/", "").replaceAll("//[^\\n]*", "").replaceAll("\"[^\"\\n]*\"", "\"\"");
        for (String word : ("try catch finally synchronized assert instanceof double float System.out Object package "
                + "native volatile transient super extends implements").split(" ")) {
            good("no " + word, !code.matches("(?s).*\\b" + word.replace(".", "\\.") + "\\b.*"));
        }
        for (String sign : new String[] {"->", "::", "\"\" +", "+ \"\"", "@"}) {
            good("no " + sign, !code.contains(sign));
        }
        int imports = 0;
        for (String line : code.split("\n")) {
            imports += line.startsWith("import ") ? 1 : 0;
            good("a line of 125 signs at most: " + line, line.length() <= 125);
        }
        DUE.is("imports", imports, 1);
        shortMethods(code);
    }

    /** A method begins where four or eight blanks go ahead of a line that ends in ") {" or "Exception {". */
    private static void shortMethods(String code) {
        String[] lines = code.split("\n");
        for (int i = 0; i < lines.length; i++) {
            String line = lines[i];
            int in = line.length() - line.stripLeading().length();
            boolean begins = (in == 4 || in == 8) && line.endsWith("{") && line.contains("(")
                    && !line.stripLeading().matches("(if|for|while|switch|else|do|\\}).*");
            if (begins) {
                int end = i;
                while (end < lines.length && !lines[end].equals(" ".repeat(in) + "}")) {
                    end++;
                }
                good("sixty lines at most: " + line, end - i <= 60);
            }
        }
    }

    /** Objects and elements that hang on one DeadPacks with all its images. */
    private static void room() throws Exception {
        DeadPacks x = new DeadPacks();
        x.image(0);
        x.image(1);
        Set<Object> seen = Collections.newSetFromMap(new IdentityHashMap<>());
        Deque<Object> open = new ArrayDeque<>();
        open.add(x);
        seen.add(x);
        long elements = 0;
        while (!open.isEmpty()) {
            Object o = open.remove();
            if (o.getClass().isArray()) {
                int length = Array.getLength(o);
                elements += length;
                for (int i = 0; i < length && !o.getClass().getComponentType().isPrimitive(); i++) {
                    if (Array.get(o, i) != null && seen.add(Array.get(o, i))) {
                        open.add(Array.get(o, i));
                    }
                }
                continue;
            }
            for (Field f : o.getClass().getDeclaredFields()) {
                if (Modifier.isStatic(f.getModifiers())) {
                    continue;
                }
                elements++;
                f.setAccessible(true);
                if (!f.getType().isPrimitive() && f.get(o) != null && seen.add(f.get(o))) {
                    open.add(f.get(o));
                }
            }
        }
        System.out.println(seen.size() + " objects, " + elements + " elements");
        good("two hundred objects at most", seen.size() <= 200);
        good("twelve thousand elements at most", elements <= 12000);
    }
}
