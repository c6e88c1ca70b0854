import java.io.IOException;
import java.lang.reflect.Constructor;
import java.lang.reflect.Field;
import java.lang.reflect.Method;
import java.lang.reflect.Modifier;
import java.nio.file.Files;
import java.nio.file.Path;
import java.util.ArrayList;
import java.util.Arrays;
import java.util.List;
import java.util.Set;
import java.util.TreeSet;
import java.util.regex.Matcher;
import java.util.regex.Pattern;
import java.util.stream.Collectors;

/** The public face is the document's and no more, and the file keeps to what can be seen of LANGUAGE.md from outside. */
public final class FaceTest {
    private static final String FACE = "feed5 text1 scheme1 fault0 step1 grow2 shrink0 clear0 told1 sign1 row3 rowOf2 count3"
            + " letter1 grows1 hit2 hits1 often1 shares1 sound0 needless0 digit3 search1 found2 result1 ran2 matches2 match2"
            + " maximals2 maximal4 strings1 repeat1 unique1 around2 common1 document2 print1 status1";
    private static int wrong;

    private static void need(boolean right, String what) {
        if (!right) {
            wrong++;
            System.out.println(what);
        }
    }

    private static boolean hidden(int modifiers) {
        return Modifier.isPrivate(modifiers);
    }

    private static void face() {
        Class<?> c = BothEnds.class;
        need(Modifier.isFinal(c.getModifiers()) && Modifier.isPublic(c.getModifiers()), "the class is not public and final");
        Set<String> seen = new TreeSet<>();
        for (Method m : c.getDeclaredMethods()) {
            if (hidden(m.getModifiers())) continue;
            seen.add(m.getName() + m.getParameterCount());
            need(Modifier.isPublic(m.getModifiers()) && !Modifier.isStatic(m.getModifiers()), m + " is not of the face");
            String type = m.getName().equals("sound") ? "boolean" : m.getName().equals("print") ? "long" : "int";
            need(m.getReturnType().getName().equals(type), m + " answers another type");
            for (Class<?> p : m.getParameterTypes()) need(p == int.class, m + " takes another type");
        }
        need(seen.equals(new TreeSet<>(List.of(FACE.split(" ")))), "the methods are others: " + seen);
        for (Field f : c.getDeclaredFields()) need(hidden(f.getModifiers()) || f.getName().equals("NONE"), f + " is seen");
        for (Constructor<?> k : c.getDeclaredConstructors()) need(k.getParameterCount() == 0 && Modifier.isPublic(k.getModifiers()), k + " is another");
    }

    private static void inside() {
        Set<String> names = new TreeSet<>();
        for (String name : FACE.split(" ")) names.add(name.replaceAll("\\d", ""));
        List<Class<?>> all = new ArrayList<>(List.of(BothEnds.class.getDeclaredClasses()));
        need(all.size() <= 12, "too many classes: " + all.size());
        all.add(BothEnds.class);
        for (Class<?> c : all) {
            need(c == BothEnds.class || Modifier.isStatic(c.getModifiers()), c + " is not static");
            List<Field> own = Arrays.stream(c.getDeclaredFields()).filter(f -> !Modifier.isStatic(f.getModifiers())).collect(Collectors.toList());
            need(own.size() <= 20, c + " has too many fields: " + own.size());
            for (Field f : c.getDeclaredFields()) {
                need(!Modifier.isStatic(f.getModifiers()) || Modifier.isFinal(f.getModifiers()), f + " is static and not final");
            }
            for (Method m : c.getDeclaredMethods()) {
                need(!m.isSynthetic(), m + " is made by the compiler");
                need(!hidden(m.getModifiers()) || !names.contains(m.getName()), m + " bears a name of the face");
                need(m.getParameterCount() <= 7, m + " takes too many");
            }
        }
    }

    private static void words(String source) {
        String bare = source.replaceAll("//[^\n]*", "").replaceAll("(?s)/\\*.*?\\*/", "").replaceAll("\"[^\"\n]*\"", "\"\"");
        for (String word : List.of("->", "::", "try", "catch", "finally", "synchronized", "assert", "var", "package", "instanceof", "System", "float", "double")) {
            boolean sign = word.equals("->") || word.equals("::");
            need(!Pattern.compile(sign ? word : "\\b" + word + "\\b").matcher(bare).find(), "the file has " + word);
        }
        Matcher imports = Pattern.compile("import ([^;]+);").matcher(bare);
        while (imports.find()) need(imports.group(1).equals("java.util.NoSuchElementException"), "import of " + imports.group(1));
        Matcher library = Pattern.compile("\\b(Math|Integer|Long|Arrays|List|String)\\.(\\w+)").matcher(bare);
        while (library.find()) need(Set.of("max", "min", "bitCount").contains(library.group(2)), "library: " + library.group());
        for (char c : source.toCharArray()) need(c < 128, "a sign beyond 127");
        made(bare);
        lengths(bare);
    }

    // Whatever a call makes is counted: all that is made is made with the object, but for what is thrown.
    private static void made(String bare) {
        String[] lines = bare.split("\n");
        for (String line : lines) {
            if (!line.contains("new ")) continue;
            boolean field = line.matches(".*private final .*= new .*");
            boolean thrown = line.matches("\\s*throw new \\w+Exception\\(\"\"\\);");
            boolean built = line.matches("            spans = new .*") || line.matches("        \\w+ = new \\w+\\(.*\\);");
            need(field || thrown || built, "made in a call: " + line.trim());
        }
    }

    private static void lengths(String bare) {
        int length = 0;
        int longest = 0;
        for (String line : bare.split("\n")) {
            boolean head = line.matches("\\s+(public|private) .*\\{");
            length = head ? 0 : length + 1;
            longest = Math.max(longest, line.matches("    (    )?\\}") ? length : 0);
        }
        need(longest <= 60, "a method of " + longest + " lines");
    }

    public static void main(String[] args) throws IOException {
        face();
        inside();
        words(Files.readString(Path.of(args[0])));
        System.out.println("FaceTest: " + wrong + " wrong");
        if (wrong > 0) System.exit(1);
    }
}
