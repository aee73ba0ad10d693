import java.io.IOException;
import java.lang.reflect.Member;
import java.lang.reflect.Modifier;
import java.nio.file.Files;
import java.nio.file.Path;
import java.util.ArrayList;
import java.util.List;
import java.util.Set;
import java.util.TreeSet;

/** The face is the document's and no more, and the source keeps to LANGUAGE.md where words tell it. */
final class FaceTest {
    private static final Set<String> FACE = Set.of("ring/0", "cell/6", "level/4", "levelOf/3", "table/6", "rules/5", "wall/2",
        "well/4", "beds/2", "lot/1", "person/5", "go/2", "death/1", "title/2", "titleOf/2", "feed/5", "end/1", "text/0",
        "fault/1", "force/3", "is/3", "why/3", "says/2", "sail/2", "months/2", "cellOf/2", "personOf/2", "at/1", "area/0",
        "choose/2", "council/1", "sinks/3", "cant/2", "keeps/4", "order/3", "grave/1", "bury/2", "found/2", "image/0",
        "back/0", "about/1");
    private static final List<String> FORBIDDEN = List.of("throw", "try", "catch", "synchronized", "assert", "import",
        "package", "Thread", "System.out", "System.nano", "System.current", "->", "::", "new int[]", "@");
    /** What stands in rule 4 and is written with a name and a dot ahead of it; all else of the library is refused. */
    private static final Set<String> LIBRARY = Set.of("Math.abs", "Math.min", "Math.max", "Math.floorDiv", "Math.floorMod",
        "Integer.compare", "Integer.bitCount", "Long.compare", "Long.bitCount", "System.arraycopy", "Arrays.fill",
        "Arrays.copyOf", "Arrays.copyOfRange", "List.of");
    private static final java.util.regex.Pattern DOTTED =
        java.util.regex.Pattern.compile("\\b(Math|Integer|Long|System|Arrays|List|String|Character|Double|Float|Boolean|Short|Byte|Object|Objects)\\.(\\w+)");
    private static final int MOST_CLASSES = 12;
    private static final int MOST_FIELDS = 20;
    private static final int MOST_PARAMETERS = 7;

    private static int wrong = 0;

    private static void due(boolean so, String what) {
        if (!so) {
            wrong++;
            System.out.println(what);
        }
    }

    public static void main(String[] args) throws IOException {
        Class<?> face = RingsUnder.class;
        due(Modifier.isFinal(face.getModifiers()) && Modifier.isPublic(face.getModifiers()), "the class is public and final");
        Set<String> open = new TreeSet<>();
        Set<String> names = new TreeSet<>();
        for (String f : FACE) {
            names.add(f.substring(0, f.indexOf('/')));
        }
        for (var m : face.getDeclaredMethods()) {
            if (Modifier.isPublic(m.getModifiers())) {
                open.add(m.getName() + "/" + m.getParameterCount());
            } else {
                due(Modifier.isPrivate(m.getModifiers()), m + " is private");
                due(!names.contains(m.getName()), m + " doesn't bear the name of a public one");
            }
        }
        due(open.equals(new TreeSet<>(FACE)), "the methods are the document's: " + open);
        List<Member> fields = new ArrayList<>(List.of(face.getDeclaredFields()));
        fields.removeIf(f -> Modifier.isPrivate(f.getModifiers()));
        due(fields.size() == 1 && fields.get(0).getName().equals("NONE"), "NONE is the only field that isn't private");
        due(face.getDeclaredConstructors().length == 1, "there is one constructor");
        due(face.getDeclaredClasses().length < MOST_CLASSES, "there are some twelve classes");
        for (Class<?> inside : face.getDeclaredClasses()) {
            due(Modifier.isStatic(inside.getModifiers()) && !Modifier.isPublic(inside.getModifiers()), inside + " is static, not public");
            sizes(inside, names);
        }
        sizes(face, Set.of());
        source();
        System.out.println(wrong == 0 ? "the face is as due" : wrong + " things are not as due");
        if (wrong > 0) {
            System.exit(1);
        }
    }

    private static void sizes(Class<?> of, Set<String> faceNames) {
        int fields = 0;
        for (var f : of.getDeclaredFields()) {
            due(!Modifier.isStatic(f.getModifiers()) || Modifier.isFinal(f.getModifiers()), f + " is final, as it is static");
            fields += Modifier.isStatic(f.getModifiers()) ? 0 : 1;
        }
        due(fields <= MOST_FIELDS, of + " has some twenty fields at most, not " + fields);
        for (var m : of.getDeclaredMethods()) {
            due(m.getParameterCount() <= MOST_PARAMETERS, m + " takes at most seven parameters");
            due(!faceNames.contains(m.getName()), m + " doesn't bear the name of a public one");
        }
    }

    private static void source() throws IOException {
        int number = 0;
        for (String line : Files.readAllLines(Path.of("src/main/java/RingsUnder.java"))) {
            number++;
            String code = line.strip();
            due(code.chars().allMatch(sign -> sign > 0 && sign < 128), "line " + number + " has signs 1 to 127 alone");
            if (code.startsWith("/**") || code.startsWith("*") || code.startsWith("//")) {
                continue;
            }
            for (String word : FORBIDDEN) {
                boolean whole = code.matches(".*(^|\\W)" + java.util.regex.Pattern.quote(word) + "(\\W|$).*");
                due(!whole, "line " + number + " has " + word);
            }
            var dotted = DOTTED.matcher(code);
            while (dotted.find()) {
                due(LIBRARY.contains(dotted.group()), "line " + number + " has " + dotted.group());
            }
        }
    }
}
