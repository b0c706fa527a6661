import java.lang.reflect.Constructor;
import java.lang.reflect.Field;
import java.lang.reflect.Method;
import java.lang.reflect.Modifier;
import java.nio.charset.StandardCharsets;
import java.nio.file.Files;
import java.nio.file.Path;
import java.util.Arrays;
import java.util.Set;
import java.util.TreeSet;
import java.util.regex.Matcher;
import java.util.regex.Pattern;

/** The public face, and what of LANGUAGE.md can be seen from outside or in the source. */
public final class FaceTest {
    private static final String[] METHODS = {
        "int type(int)", "int clear()", "int suit()", "int good(int,int)", "int values(int,int)", "int now(int)",
        "int gives(int,int)", "int steps(int)", "int undo()", "int envy(int)", "int fair(int)", "int cut(int,int)",
        "int byTurns(int,int)", "int lies(int,int)", "int sell(int)", "int adds(int)", "int odds(int,int)", "int foot(int)",
        "int worn(int,int)", "int judge(int)", "int saw(int,int,int)", "int forget()", "int wrong(int)", "int asTold()",
        "int soonest(int,int,int)", "int rate(int,int)", "int keep(int)", "int back(int)", "int count(int)", "long trace()"};
    private static final String[] RULED_OUT = {
        "throw", "try", "catch", "synchronized", "assert", "volatile", "native", "import", "package", "equals", "hashCode",
        "toString", "Exact", "System.out", "System.nanoTime", "currentTimeMillis", "Random", "Thread", "->", "::", "NaN", "protected"};

    public static void main(String[] args) throws Exception {
        methods();
        fields();
        constructors();
        classesInside();
        source(Files.readString(Path.of(System.getProperty("shoes.root"), "src/main/java/ShoesAtLaw.java"), StandardCharsets.ISO_8859_1));
        Due.end();
    }

    private static void yes(String what, boolean so) {
        Due.is(what, so ? 1 : 0, 1);
    }

    private static void methods() {
        Set<String> names = new TreeSet<>();
        Set<String> found = new TreeSet<>();
        for (Method m : ShoesAtLaw.class.getDeclaredMethods()) {
            if (Modifier.isPublic(m.getModifiers())) {
                names.add(m.getName());
                found.add(m.toString().replaceAll("^public ", "").replace("ShoesAtLaw.", ""));
            }
        }
        Set<String> want = new TreeSet<>(Arrays.asList(METHODS));
        yes("public methods " + found, found.equals(want));
        for (Method m : ShoesAtLaw.class.getDeclaredMethods()) {
            boolean isPublic = Modifier.isPublic(m.getModifiers());
            yes(m + " is public or private", isPublic || Modifier.isPrivate(m.getModifiers()));
            yes(m + " has a name of its own", isPublic || !names.contains(m.getName()));
        }
    }

    private static void fields() throws Exception {
        Set<String> found = new TreeSet<>();
        for (Field f : ShoesAtLaw.class.getDeclaredFields()) {
            int modifiers = f.getModifiers();
            if (Modifier.isPublic(modifiers)) {
                found.add(f.getName() + "=" + f.getInt(null));
            } else {
                yes(f + " is private", Modifier.isPrivate(modifiers));
            }
            yes(f + " is final, if static", !Modifier.isStatic(modifiers) || Modifier.isFinal(modifiers));
        }
        yes("constants " + found, found.equals(Set.of("BAD=-1", "STATE=-2", "FULL=-3", "NONE=-9", "NO=-1000000")));
    }

    private static void constructors() {
        Constructor<?>[] all = ShoesAtLaw.class.getDeclaredConstructors();
        Due.is("constructors", all.length, 1);
        yes("the constructor is public", Modifier.isPublic(all[0].getModifiers()));
        Due.is("its parameters", all[0].getParameterCount(), 0);
        int modifiers = ShoesAtLaw.class.getModifiers();
        yes("the class is public and final", Modifier.isPublic(modifiers) && Modifier.isFinal(modifiers));
    }

    private static void classesInside() {
        Class<?>[] inside = ShoesAtLaw.class.getDeclaredClasses();
        yes("classes in the file: " + (inside.length + 1), inside.length + 1 <= 12);
        for (Class<?> c : inside) {
            yes(c + " is static", Modifier.isStatic(c.getModifiers()));
            yes(c + " is not seen from outside", !Modifier.isPublic(c.getModifiers()) && !Modifier.isProtected(c.getModifiers()));
            int fields = 0;
            for (Field f : c.getDeclaredFields()) {
                fields += Modifier.isStatic(f.getModifiers()) ? 0 : 1;
            }
            yes(c + " has some twenty fields at most", fields <= 20);
            for (Method m : c.getDeclaredMethods()) {
                yes(m + " takes seven at most", m.getParameterCount() <= 7);
                yes(m + " bears no name of the face", Arrays.stream(METHODS).noneMatch(f -> f.contains(" " + m.getName() + "(")));
            }
        }
    }

    private static void source(String source) {
        String code = source.replaceAll("(?s)/\\*.*?\\*/", "").replaceAll("//[^\n]*", "");
        for (String word : RULED_OUT) {
            String sought = Character.isLetter(word.charAt(0)) ? "\\b" + Pattern.quote(word) + "\\b" : Pattern.quote(word);
            yes("'" + word + "' does not stand in the source", !Pattern.compile(sought).matcher(code).find());
        }
        for (int i = 0; i < source.length(); i++) {
            char c = source.charAt(i);
            if (c > 126 || c < 32 && c != '\n') {
                yes("letter " + (int) c + " at " + i, false);
            }
        }
        Matcher method = Pattern.compile("(?m)^( +)[^\\n=;.]*\\) \\{\\n(?s:.*?)\\n\\1\\}").matcher(code);
        while (method.find()) {
            long lines = method.group().chars().filter(c -> c == '\n').count() + 1;
            yes("sixty lines at most: " + method.group().split("\n")[0].trim(), lines <= 60);
        }
    }
}
