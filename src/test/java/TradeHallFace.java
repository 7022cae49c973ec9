import java.io.IOException;
import java.lang.reflect.Constructor;
import java.lang.reflect.Field;
import java.lang.reflect.Method;
import java.lang.reflect.Modifier;
import java.nio.charset.StandardCharsets;
import java.nio.file.Files;
import java.nio.file.Path;
import java.util.ArrayList;
import java.util.HashSet;
import java.util.List;
import java.util.Set;
import java.util.TreeSet;
import java.util.regex.Matcher;
import java.util.regex.Pattern;

/**
 * That the class has the face of ../shared/DOC.md and no more, and what of ../shared/LANGUAGE.md
 * can be seen from outside or from the words of the file. It runs in the project's directory.
 */
public final class TradeHallFace {
    private static final Path DOC = Path.of("../shared/DOC.md");
    private static final Path SOURCE = Path.of("src/main/java/TradeHall.java");
    private static int wrong = 0;

    public static void main(String[] args) throws IOException {
        faceIsThatOfTheDocument();
        for (Class<?> inside : TradeHall.class.getDeclaredClasses()) {
            classInside(inside);
        }
        due(TradeHall.class.getDeclaredClasses().length + 1 <= 12, "more than twelve classes");
        sizes(TradeHall.class);
        wordsOfTheSource();
        System.out.println(wrong == 0 ? "the face and the words are as told"
                : wrong + " rules are broken");
        if (wrong != 0) {
            System.exit(1);
        }
    }

    private static void due(boolean holds, String otherwise) {
        if (!holds) {
            wrong++;
            System.out.println(otherwise);
        }
    }

    // ---- the face ----

    private static void faceIsThatOfTheDocument() throws IOException {
        Set<String> asked = faceOfTheDocument();
        Set<String> has = faceOfTheClass();
        due(asked.size() > 40, "the face cannot be read in " + DOC);
        for (String member : asked) {
            due(has.contains(member), "missing: " + member);
        }
        for (String member : has) {
            due(asked.contains(member), "not in the document: " + member);
        }
        due(TradeHall.NONE == -1, "NONE is not -1");
    }

    /** Its lines between the fences, without the names of the arguments. */
    private static Set<String> faceOfTheDocument() throws IOException {
        String doc = Files.readString(DOC, StandardCharsets.UTF_8);
        Set<String> face = new TreeSet<>();
        Matcher fence = Pattern.compile("```java\n(.*?)```", Pattern.DOTALL).matcher(doc);
        while (fence.find()) {
            Matcher line = Pattern.compile("\\n?\\s*(public [^;{]*)[;{]").matcher(fence.group(1));
            while (line.find()) {
                face.add(line.group(1).strip()
                        .replaceAll(" = -1$", "")
                        .replaceAll("\\b(int|long|boolean) \\w+(?=[,)])", "$1"));
            }
        }
        return face;
    }

    private static Set<String> faceOfTheClass() {
        Set<String> face = new TreeSet<>();
        face.add(Modifier.toString(TradeHall.class.getModifiers()) + " class TradeHall");
        for (Field field : TradeHall.class.getDeclaredFields()) {
            if (!Modifier.isPrivate(field.getModifiers())) {
                face.add(Modifier.toString(field.getModifiers()) + " " + field.getType()
                        + " " + field.getName());
            }
        }
        for (Constructor<?> made : TradeHall.class.getDeclaredConstructors()) {
            if (!Modifier.isPrivate(made.getModifiers())) {
                face.add(Modifier.toString(made.getModifiers()) + " TradeHall"
                        + arguments(made.getParameterTypes()));
            }
        }
        for (Method method : TradeHall.class.getDeclaredMethods()) {
            if (!Modifier.isPrivate(method.getModifiers())) {
                face.add(Modifier.toString(method.getModifiers()) + " " + method.getReturnType()
                        + " " + method.getName() + arguments(method.getParameterTypes()));
            }
        }
        return face;
    }

    private static String arguments(Class<?>[] types) {
        List<String> names = new ArrayList<>();
        for (Class<?> type : types) {
            names.add(type.getSimpleName());
        }
        return "(" + String.join(", ", names) + ")";
    }

    // ---- the classes ----

    private static void classInside(Class<?> inside) {
        int modifiers = inside.getModifiers();
        due(Modifier.isStatic(modifiers), inside + " is not static");
        due(!Modifier.isPublic(modifiers) && !Modifier.isProtected(modifiers),
                inside + " is public or protected");
        sizes(inside);
    }

    private static void sizes(Class<?> some) {
        Set<String> face = new HashSet<>();
        for (Method method : TradeHall.class.getDeclaredMethods()) {
            if (Modifier.isPublic(method.getModifiers())) {
                face.add(method.getName());
            }
        }
        for (Method method : some.getDeclaredMethods()) {
            boolean free = some == TradeHall.class && Modifier.isPublic(method.getModifiers());
            due(free || !face.contains(method.getName()), method + " bears a public one's name");
            due(method.getParameterCount() <= 7, method + " takes more than seven parameters");
        }
        int fields = 0;
        for (Field field : some.getDeclaredFields()) {
            boolean constant = Modifier.isStatic(field.getModifiers());
            due(!constant || Modifier.isFinal(field.getModifiers()), field + " is not final");
            fields += constant ? 0 : 1;
        }
        due(fields <= 20, some + " has more than twenty fields");
    }

    // ---- the words ----

    private static void wordsOfTheSource() throws IOException {
        String source = Files.readString(SOURCE, StandardCharsets.ISO_8859_1);
        for (int i = 0; i < source.length(); i++) {
            due(source.charAt(i) < 128, "a sign beyond ASCII at " + i);
        }
        String bare = source
                .replaceAll("\"(\\\\.|[^\"\\\\\n])*\"", "\"\"")
                .replaceAll("'(\\\\.|[^'\\\\\n])'", "' '")
                .replaceAll("(?s)/\\*.*?\\*/", " ")
                .replaceAll("//[^\n]*", " ");
        for (String word : List.of("throw", "throws", "try", "catch", "synchronized", "assert",
                "package", "equals", "hashCode", "toString", "native", "volatile")) {
            due(!Pattern.compile("(?<![\\w.])" + word + "\\b").matcher(bare).find(),
                    "the word " + word);
        }
        for (String sign : List.of("->", "::", "Exact")) {
            due(!bare.contains(sign), "the sign " + sign);
        }
        libraryOf(bare);
    }

    /** A name with a great letter first and small ones is of the file or of what rule 4 lists. */
    private static void libraryOf(String bare) {
        Set<String> known = new HashSet<>(List.of("TradeHall", "String", "StringBuilder", "List",
                "ArrayList", "Arrays", "Iterator", "Iterable", "Comparable", "Integer"));
        for (Class<?> inside : TradeHall.class.getDeclaredClasses()) {
            known.add(inside.getSimpleName());
        }
        Pattern functions = Pattern.compile("System\\.arraycopy|(Math|Integer|Long)"
                + "\\.(compare|max|min|abs|bitCount|floorDiv|floorMod)");
        Matcher name = Pattern.compile("\\b[A-Z]\\w*[a-z]\\w*(\\.\\w+)?").matcher(bare);
        while (name.find()) {
            String first = name.group().replaceAll("\\..*", "");
            due(known.contains(first) || functions.matcher(name.group()).matches(),
                    "of the library: " + name.group());
        }
    }
}
