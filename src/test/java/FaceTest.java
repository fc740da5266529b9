import java.io.IOException;
import java.lang.reflect.Constructor;
import java.lang.reflect.Field;
import java.lang.reflect.Method;
import java.lang.reflect.Modifier;
import java.nio.file.Files;
import java.nio.file.Path;
import java.util.ArrayList;
import java.util.Arrays;
import java.util.List;
import java.util.TreeSet;
import java.util.regex.Matcher;
import java.util.regex.Pattern;

/** The public face is the document's and no more; the source keeps to the plainest of the language's rules. */
public final class FaceTest {
    private static final Path SOURCE = Path.of("src/main/java/DiscLines.java");
    private static final String[] FACE = {
        "int shade(int,int,int)", "int green(int,int,int)", "int mark(int,int)", "int seen(int,int,int,int,int)",
        "int line(int,int)", "int write(int,int)", "int erase(int)", "int fault(int)",
        "int drawn(int,int,int,int,int,int)", "int far(int,int,int)", "int fairest(int,int,int,int)",
        "int observer(int,int)", "int sheet(int,int,int)", "int draw(int,int,int,int,int,int)",
        "int show(int,int,int)", "int of(int,int)", "int agree(int,int,int)", "int chance(int,int)",
        "long part(int)", "int own(int)", "int took(int,int)", "long ways()", "int guess(int,int,int)",
        "int error(int)", "int allows(int,int)", "int mayBe(int)", "int there(int,int)", "int parts(int,int)",
        "int weighed(int)", "int season(int,int)", "int image(int)", "int from(int)", "int count(int)",
        "long digest()"};
    private static final String[] FORBIDDEN = {"throw", "throws", "try", "catch", "synchronized", "assert", "->", "::",
        "Exact", "System\\.(?!arraycopy)", "Random", "double", "float", "hashCode", "toString", "package"};
    private static int wrong = 0;

    public static void main(String[] args) throws IOException, IllegalAccessException {
        methods();
        constants();
        constructors();
        nestedClasses();
        source();
        System.out.println(wrong == 0 ? "the face is as told" : wrong + " things are not as told");
        if (wrong != 0) {
            System.exit(1);
        }
    }

    private static void check(boolean holds, String what) {
        if (!holds) {
            wrong++;
            System.out.println("not as told: " + what);
        }
    }

    private static String told(Method m) {
        List<String> types = new ArrayList<>();
        for (Class<?> c : m.getParameterTypes()) {
            types.add(c.getSimpleName());
        }
        return m.getReturnType().getSimpleName() + " " + m.getName() + "(" + String.join(",", types) + ")";
    }

    private static void methods() {
        TreeSet<String> face = new TreeSet<>(Arrays.asList(FACE));
        TreeSet<String> found = new TreeSet<>();
        for (Method m : DiscLines.class.getDeclaredMethods()) {
            if (Modifier.isPublic(m.getModifiers())) {
                check(!Modifier.isStatic(m.getModifiers()), m + " is static");
                found.add(told(m));
            } else {
                check(Modifier.isPrivate(m.getModifiers()) || m.isSynthetic(), m + " is seen from outside");
            }
            check(m.getParameterCount() <= 7, m + " takes more than seven");
        }
        check(face.equals(found), "the public methods are " + found);
        check(Modifier.isFinal(DiscLines.class.getModifiers()), "the class is final");
    }

    private static void constants() throws IllegalAccessException {
        int seen = 0;
        for (Field f : DiscLines.class.getDeclaredFields()) {
            if (Modifier.isPublic(f.getModifiers())) {
                seen++;
                int due = List.of("", "NONE", "BAD", "NO", "FULL").indexOf(f.getName());
                check(due > 0 && f.getInt(null) == -due, "the constant " + f.getName());
            } else {
                check(Modifier.isPrivate(f.getModifiers()), f + " is seen from outside");
            }
            check(!Modifier.isStatic(f.getModifiers()) || Modifier.isFinal(f.getModifiers()), f + " is static state");
        }
        check(seen == 4, "four constants");
    }

    private static void constructors() {
        Constructor<?>[] all = DiscLines.class.getDeclaredConstructors();
        check(all.length == 1 && Modifier.isPublic(all[0].getModifiers()) && all[0].getParameterCount() == 0,
                "one public constructor without parameters");
    }

    private static void nestedClasses() {
        TreeSet<String> publicNames = new TreeSet<>();
        for (String s : FACE) {
            publicNames.add(s.substring(s.indexOf(' ') + 1, s.indexOf('(')));
        }
        Class<?>[] nested = DiscLines.class.getDeclaredClasses();
        check(nested.length <= 11, "at most some twelve classes");
        for (Class<?> c : nested) {
            check(Modifier.isStatic(c.getModifiers()), c + " is static");
            check(!Modifier.isPublic(c.getModifiers()) && !Modifier.isProtected(c.getModifiers()), c + " is not public");
            for (Method m : c.getDeclaredMethods()) {
                check(!publicNames.contains(m.getName()), m + " bears the name of a public one");
                check(m.getParameterCount() <= 7, m + " takes more than seven");
            }
            for (Field f : c.getDeclaredFields()) {
                check(!Modifier.isStatic(f.getModifiers()) || Modifier.isFinal(f.getModifiers()), f + " is static state");
            }
        }
    }

    private static void source() throws IOException {
        String text = Files.readString(SOURCE);
        for (int i = 0; i < text.length(); i++) {
            check(text.charAt(i) < 128, "sign " + (int) text.charAt(i) + " at " + i);
        }
        String bare = text.replaceAll("(?s)/\\*.*?\\*/", "").replaceAll("//[^\n]*", "");
        for (String word : FORBIDDEN) {
            String pattern = Character.isLetter(word.charAt(0)) && !word.endsWith(")") && !word.equals("Exact")
                    ? "\\b" + word + "\\b" : word;
            Matcher m = Pattern.compile(pattern).matcher(bare);
            check(!m.find(), "the source has " + word);
        }
        Matcher imports = Pattern.compile("import ([^;]+);").matcher(bare);
        while (imports.find()) {
            check(imports.group(1).equals("java.util.Arrays"), "import of " + imports.group(1));
        }
    }
}
