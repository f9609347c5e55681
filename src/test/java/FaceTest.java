import java.lang.reflect.Constructor;
import java.lang.reflect.Field;
import java.lang.reflect.Member;
import java.lang.reflect.Method;
import java.lang.reflect.Modifier;
import java.nio.charset.StandardCharsets;
import java.nio.file.Files;
import java.nio.file.Path;
import java.util.ArrayList;
import java.util.Arrays;
import java.util.HashSet;
import java.util.List;
import java.util.Set;
import java.util.regex.Matcher;
import java.util.regex.Pattern;

/** The public face, and those rules of LANGUAGE.md that can be read off the class and its source. */
public final class FaceTest {
    private static final String[] FACE = {
        "shot 2", "cue 2", "stretches 0", "stretch 2", "tenths 2", "piece 4", "block 4", "way 2",
        "along 3", "misfit 3", "best 2", "step 2", "rule 2", "programme 1", "given 2", "begin 0",
        "go 1", "seen 0", "reel 1", "now 1", "played 1", "fees 0", "effect 3", "hands 1", "free 1",
        "clash 0", "left 0", "count 1"};
    private static final String[] FORBIDDEN = {
        "throw", "throws", "try", "catch", "synchronized", "assert", "package", "protected",
        "import static", "->", "::", "Exact", "hashCode", "System.out", "Random", "Thread"};

    public static void main(String[] args) throws Exception {
        Check c = new Check();
        constants(c);
        members(c);
        for (Class<?> inside : ShadowBand.class.getDeclaredClasses()) {
            insideClass(c, inside);
        }
        c.hold("some twelve classes at most", ShadowBand.class.getDeclaredClasses().length <= 12);
        source(c);
        c.end();
    }

    private static void constants(Check c) {
        c.due("BAD", ShadowBand.BAD, -1);
        c.due("NOT", ShadowBand.NOT, -2);
        c.due("FULL", ShadowBand.FULL, -3);
        c.due("BIG", ShadowBand.BIG, -4);
    }

    private static void members(Check c) {
        Class<?> type = ShadowBand.class;
        c.hold("public and final", Modifier.isPublic(type.getModifiers())
            && Modifier.isFinal(type.getModifiers()));
        Set<String> due = new HashSet<>(Arrays.asList(FACE));
        Set<String> publicNames = new HashSet<>();
        List<String> privateNames = new ArrayList<>();
        for (Method m : type.getDeclaredMethods()) {
            String sign = m.getName() + " " + m.getParameterCount();
            if (Modifier.isPublic(m.getModifiers())) {
                c.hold("of the face: " + sign, due.remove(sign) && m.getReturnType() == int.class);
                publicNames.add(m.getName());
                for (Class<?> p : m.getParameterTypes()) {
                    c.hold("int alone: " + sign, p == int.class);
                }
            } else {
                c.hold("private: " + sign, isHidden(m));
                privateNames.add(m.getName());
            }
        }
        c.hold("all of the face is there, but for " + due, due.isEmpty());
        for (String name : privateNames) {
            c.hold("no private method bears a public one's name: " + name,
                !publicNames.contains(name));
        }
        Constructor<?>[] made = type.getDeclaredConstructors();
        c.hold("one public constructor", made.length == 1
            && Modifier.isPublic(made[0].getModifiers()) && made[0].getParameterCount() == 0);
        Set<String> shown = new HashSet<>(Arrays.asList("BAD", "NOT", "FULL", "BIG"));
        for (Field f : type.getDeclaredFields()) {
            c.hold("field " + f.getName(), isHidden(f) || shown.contains(f.getName()));
        }
    }

    private static boolean isHidden(Member m) {
        return Modifier.isPrivate(m.getModifiers()) || m.isSynthetic();
    }

    private static void insideClass(Check c, Class<?> inside) {
        String name = inside.getSimpleName();
        c.hold("static: " + name, Modifier.isStatic(inside.getModifiers()));
        c.hold("not public: " + name, !Modifier.isPublic(inside.getModifiers()));
        int fields = 0;
        for (Field f : inside.getDeclaredFields()) {
            boolean isStatic = Modifier.isStatic(f.getModifiers());
            fields += isStatic ? 0 : 1;
            c.hold("static is final: " + f, !isStatic || Modifier.isFinal(f.getModifiers()));
        }
        c.hold("some twenty fields at most: " + name, fields <= 20);
        for (Method m : inside.getDeclaredMethods()) {
            c.hold("seven parameters at most: " + m, m.getParameterCount() <= 7);
            c.hold("bears no name of the face: " + m, !isOfTheFace(m.getName()));
        }
        for (Constructor<?> m : inside.getDeclaredConstructors()) {
            c.hold("seven parameters at most: " + m, m.getParameterCount() <= 7);
        }
    }

    private static boolean isOfTheFace(String name) {
        for (String sign : FACE) {
            if (sign.startsWith(name + " ")) {
                return true;
            }
        }
        return false;
    }

    private static void source(Check c) throws Exception {
        byte[] bytes = Files.readAllBytes(Path.of("src/main/java/ShadowBand.java"));
        String text = new String(bytes, StandardCharsets.ISO_8859_1);
        for (int i = 0; i < bytes.length; i++) {
            if (bytes[i] < 0) {
                c.hold("signs 1 to 127 alone, at " + i, false);
            }
        }
        String code = text.replaceAll("(?s)/\\*.*?\\*/", " ").replaceAll("//[^\n]*", " ");
        for (String word : FORBIDDEN) {
            boolean isWord = Character.isLetter(word.charAt(0)) && !word.equals("Exact");
            Pattern p = Pattern.compile(isWord ? "\\b" + Pattern.quote(word) + "\\b"
                : Pattern.quote(word));
            c.hold("without '" + word + "'", !p.matcher(code).find());
        }
        Matcher imports = Pattern.compile("import\\s+([\\w.*]+)").matcher(code);
        Set<String> fine = new HashSet<>(Arrays.asList("java.util.ArrayList", "java.util.List",
            "java.util.Arrays"));
        while (imports.find()) {
            c.hold("import " + imports.group(1), fine.contains(imports.group(1)));
        }
        methodLengths(c, code);
    }

    /** A method begins with a line of 4 or 8 spaces that ends in ') {' and ends with its brace. */
    private static void methodLengths(Check c, String code) {
        String[] lines = code.split("\n");
        for (int i = 0; i < lines.length; i++) {
            Matcher head = Pattern.compile("^( {4}| {8})\\w.*\\) \\{$").matcher(lines[i]);
            if (!head.matches()) {
                continue;
            }
            int end = i + 1;
            while (end < lines.length && !lines[end].equals(head.group(1) + "}")) {
                end++;
            }
            c.hold("sixty lines at most: " + lines[i], end - i <= 60);
        }
    }
}
