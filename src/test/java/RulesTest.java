import java.lang.reflect.Member;
import java.lang.reflect.Method;
import java.lang.reflect.Modifier;
import java.nio.file.Files;
import java.nio.file.Path;
import java.util.ArrayList;
import java.util.Arrays;
import java.util.List;
import java.util.Set;
import java.util.TreeSet;
import java.util.regex.Matcher;
import java.util.regex.Pattern;
import java.util.stream.Collectors;
import java.util.stream.Stream;

/** The face as DOC.md has it, and what of LANGUAGE.md can be read off the source and the compiled class. */
public final class RulesTest {
    private static final Check C = new Check();
    private static final String FACE = "feed end parish fault man boy help sleepers night send recall light snuff pour undo redo "
            + "will asleep calm sending round twelve stable jealous burning need least rivals home trade idle dark glow blest timid "
            + "nearest between law odds lies seen untell later fits sure ask image back about";

    public static void main(String[] args) throws Exception {
        String source = Files.readString(Path.of("src/main/java/NightLights.java"));
        face();
        faceAsInTheDocument(Files.readString(Path.of("../shared/DOC.md")));
        names();
        words(source);
        objects(source);
        lengths(source);
        C.finish();
    }

    private static Set<String> open(Member[] members) {
        return Arrays.stream(members).filter(m -> !Modifier.isPrivate(m.getModifiers())).map(Member::getName)
                .collect(Collectors.toCollection(TreeSet::new));
    }

    private static void face() {
        C.part("rule 1: the face");
        Class<?> c = NightLights.class;
        C.due("public and final", Modifier.isPublic(c.getModifiers()) && Modifier.isFinal(c.getModifiers()), true);
        C.due("methods", open(c.getDeclaredMethods()).equals(new TreeSet<>(Arrays.asList(FACE.split(" ")))), true);
        C.due("fields", open(c.getDeclaredFields()).equals(Set.of("NONE")), true);
        C.due("constructors", c.getDeclaredConstructors().length, 1);
    }

    /** Each line of the face as the document has it, types and all, and none beside. */
    private static void faceAsInTheDocument(String document) {
        C.part("the public face");
        String face = document.substring(document.indexOf("public final class NightLights {"));
        Set<String> wanted = new TreeSet<>();
        Matcher line = Pattern.compile("    public (int|boolean) (\\w+)\\(([^)]*)\\);").matcher(face.substring(0, face.indexOf("\n}\n")));
        while (line.find()) {
            wanted.add(line.group(1) + " " + line.group(2) + "(" + line.group(3).replaceAll(" \\w+(?=,|$)", "").replace(" ", "") + ")");
        }
        Set<String> had = new TreeSet<>();
        for (Method m : NightLights.class.getDeclaredMethods()) {
            if (Modifier.isPublic(m.getModifiers())) {
                C.due(m.getName() + " belongs to an object", Modifier.isStatic(m.getModifiers()), false);
                had.add(m.getReturnType() + " " + m.getName() + Arrays.stream(m.getParameterTypes()).map(Class::getName)
                        .collect(Collectors.joining(",", "(", ")")));
            }
        }
        C.due("49 methods", wanted.size(), 49);
        C.due("the methods " + wanted + ", found " + had, had.equals(wanted), true);
        C.due("NONE", NightLights.NONE, -1);
        Class<?>[] parameters = NightLights.class.getDeclaredConstructors()[0].getParameterTypes();
        C.due("what the constructor takes", parameters.length, 0);
    }

    /** From a method's first line to the brace that closes it, both indented alike. */
    private static void lengths(String source) {
        C.part("rule 11: some sixty lines");
        String[] lines = source.split("\n");
        for (int i = 0; i < lines.length; i++) {
            if (lines[i].matches("    (    )?[^ ].*\\) \\{")) {
                String closing = lines[i].replaceAll("[^ ].*", "") + "}";
                int end = i;
                while (end < lines.length && !lines[end].equals(closing)) {
                    end++;
                }
                C.due(lines[i].trim() + " has " + (end - i + 1) + " lines, which are short", end - i < 60, true);
            }
        }
    }

    private static void names() {
        C.part("rules 1, 2, 5, 11: names, kinds, numbers of members");
        Set<String> face = Set.of(FACE.split(" "));
        List<Class<?>> all = new ArrayList<>(List.of(NightLights.class));
        all.addAll(Arrays.asList(NightLights.class.getDeclaredClasses()));
        C.due("some twelve classes", all.size() <= 12, true);
        for (Class<?> c : all) {
            for (Method m : c.getDeclaredMethods()) {
                boolean own = c == NightLights.class && Modifier.isPublic(m.getModifiers());
                C.due(c.getName() + "." + m.getName() + " bears a public name", !own && face.contains(m.getName()), false);
                C.due(c.getName() + "." + m.getName() + " parameters", m.getParameterCount() <= 7, true);
            }
            long fields = Arrays.stream(c.getDeclaredFields()).filter(f -> !Modifier.isStatic(f.getModifiers())).count();
            C.due(c.getName() + " has some twenty fields", fields <= 20, true);
            C.due(c.getName() + " is static", c == NightLights.class || Modifier.isStatic(c.getModifiers()), true);
            Stream.of(c.getDeclaredFields()).filter(f -> Modifier.isStatic(f.getModifiers()))
                    .forEach(f -> C.due(f.getName() + " is final", Modifier.isFinal(f.getModifiers()), true));
        }
    }

    private static String bare(String source) {
        return source.replaceAll("(?s)/\\*.*?\\*/", "").replaceAll("//[^\n]*", "")
                .replaceAll("\"[^\"\n]*\"", "\"\"").replaceAll("'.'", "' '");
    }

    private static void words(String source) {
        C.part("rules 2, 4, 6, 13: words that are not used");
        String code = bare(source);
        for (String word : List.of("throw", "throws", "try", "catch", "finally", "synchronized", "assert", "Object", "hashCode",
                "toString", "getClass", "System\\.(?!arraycopy)", "Thread", "Random", "\\w+Exact", "volatile", "transient", "native",
                "var", "goto", "Exception", "Error", "Character", "java\\.(?!util\\.Arrays;)")) {
            Matcher m = Pattern.compile("\\b" + word + "\\b").matcher(code);
            C.due("'" + word + "' is there", m.find(), false);
        }
        C.due("lambdas", code.contains("->"), false);
        C.due("method references", code.contains("::"), false);
        C.due("signs beyond 127", source.chars().allMatch(c -> c < 128), true);
    }

    /** Nothing is made by a call: every 'new' stands in a field's initialiser. */
    private static void objects(String source) {
        C.part("rule 12: objects");
        for (String line : bare(source).split("\n")) {
            if (line.matches(".*\\bnew\\b.*")) {
                boolean field = line.matches("(    |        )(private |final )+.* = new [\\w\\[\\]() *+.]+;");
                C.due("a field's initialiser: " + line.trim(), field, true);
            }
        }
    }
}
