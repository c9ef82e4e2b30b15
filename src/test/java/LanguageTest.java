import java.io.IOException;
import java.lang.reflect.Constructor;
import java.lang.reflect.Field;
import java.lang.reflect.Member;
import java.lang.reflect.Method;
import java.lang.reflect.Modifier;
import java.nio.file.Files;
import java.nio.file.Path;
import java.util.ArrayList;
import java.util.Arrays;
import java.util.HashSet;
import java.util.List;
import java.util.Set;
import java.util.TreeSet;
import java.util.regex.Matcher;
import java.util.regex.Pattern;

/** The face of the document, and those rules of LANGUAGE.md that can be seen from the source or by reflection. */
public final class LanguageTest {
    private static final Path SOURCE = Path.of("src/main/java/CartRows.java");
    private static final String[] FACE = {"make IIIII", "write JI", "erase ", "fault ", "table I", "row II", "set II",
        "push II", "calm ", "lose I", "hill IIII", "stranger IIII", "at III", "touch I", "least I", "dip I", "grows ",
        "safe III", "need II", "worst III", "sparing ", "bears II", "journey IIIII", "clear ", "best I", "judge I",
        "spared III", "together I", "share III", "clock II", "event II", "after III", "agree ", "span II", "count I"};
    private static final Set<String> CONSTANTS = Set.of("NONE", "UNKNOWN", "OUTSIDE", "NOT", "FULL");

    public static void main(String[] args) throws IOException {
        constants();
        face();
        members();
        classesInside();
        source(withoutComments(Files.readString(SOURCE)));
        Due.end();
    }

    private static void constants() {
        Due.due("NONE", CartRows.NONE, -1);
        Due.due("UNKNOWN", CartRows.UNKNOWN, -2);
        Due.due("OUTSIDE", CartRows.OUTSIDE, -3);
        Due.due("NOT", CartRows.NOT, -4);
        Due.due("FULL", CartRows.FULL, -5);
    }

    private static void face() {
        Set<String> found = new TreeSet<>();
        for (Method method : CartRows.class.getDeclaredMethods()) {
            if (Modifier.isPublic(method.getModifiers())) {
                StringBuilder line = new StringBuilder(method.getName()).append(' ');
                for (Class<?> type : method.getParameterTypes()) {
                    line.append(type.descriptorString());
                }
                found.add(line.toString());
                Due.holds(line + " answers int", method.getReturnType() == int.class);
            }
        }
        Due.holds("the public calls are those of the document", found.equals(new TreeSet<>(Arrays.asList(FACE))));
        Due.holds("the class is public and final", Modifier.isPublic(CartRows.class.getModifiers())
            && Modifier.isFinal(CartRows.class.getModifiers()));
    }

    private static void members() {
        List<Member> members = new ArrayList<>(Arrays.asList(CartRows.class.getDeclaredMethods()));
        members.addAll(Arrays.asList(CartRows.class.getDeclaredFields()));
        Set<String> publicNames = new HashSet<>();
        for (Method method : CartRows.class.getMethods()) {
            publicNames.add(method.getName());
        }
        for (Member member : members) {
            int modifiers = member.getModifiers();
            boolean isFace = Modifier.isPublic(modifiers)
                && (member instanceof Method || CONSTANTS.contains(member.getName()));
            Due.holds(member.getName() + " is private or of the face", isFace || Modifier.isPrivate(modifiers));
            if (member instanceof Method && Modifier.isPrivate(modifiers)) {
                Due.holds(member.getName() + " is no public call's name", !publicNames.contains(member.getName()));
            }
        }
        Constructor<?>[] constructors = CartRows.class.getDeclaredConstructors();
        Due.holds("one constructor, without parameters, public", constructors.length == 1
            && constructors[0].getParameterCount() == 0 && Modifier.isPublic(constructors[0].getModifiers()));
    }

    private static void classesInside() {
        Class<?>[] inside = CartRows.class.getDeclaredClasses();
        Due.holds("at most twelve classes", inside.length < 12);
        List<Class<?>> all = new ArrayList<>(Arrays.asList(inside));
        all.add(CartRows.class);
        for (Class<?> one : all) {
            boolean isTop = one == CartRows.class;
            Due.holds(one.getName() + " is static", isTop || Modifier.isStatic(one.getModifiers()));
            int fields = 0;
            for (Field field : one.getDeclaredFields()) {
                boolean isStatic = Modifier.isStatic(field.getModifiers());
                fields += isStatic ? 0 : 1;
                Due.holds(field + " is final, if static", !isStatic || Modifier.isFinal(field.getModifiers()));
            }
            Due.holds(one.getName() + " has at most twenty fields", fields <= 20);
            for (Method method : one.getDeclaredMethods()) {
                Due.holds(method + " takes at most seven", method.getParameterCount() <= 7);
            }
        }
    }

    private static String withoutComments(String source) {
        return source.replaceAll("(?s)/\\*.*?\\*/", "").replaceAll("//[^\n]*", "");
    }

    private static void source(String source) {
        String[] words = {"throw", "throws", "try", "catch", "finally", "synchronized", "assert", "package", "protected",
            "System\\.(?!arraycopy)", "Exact", "->", "::", "hashCode", "Object", "double", "float", "yield", "import",
            "volatile", "native", "\"[^\"]*\"\\s*\\+", "\\+\\s*\""};
        for (String word : words) {
            String pattern = Character.isLetter(word.charAt(0)) && !word.contains(".") ? "\\b" + word + "\\b" : word;
            Matcher m = Pattern.compile(pattern).matcher(source);
            Due.holds("no " + word, !m.find());
        }
        Due.holds("signs of 1 to 127 alone", source.chars().allMatch(c -> c > 0 && c < 128));
        Matcher library = Pattern.compile("\\b(Math|Integer|Long|Arrays)\\.(\\w+)").matcher(source);
        Set<String> allowed = Set.of("max", "min", "abs", "floorDiv", "floorMod", "bitCount", "compare", "fill", "copyOf");
        while (library.find()) {
            Due.holds(library.group() + " is in the language", allowed.contains(library.group(2)));
        }
        methodsAreShort(source);
        // all rows are made with the object and used again: a call makes nothing
        source.lines().filter(line -> line.matches(".*\\bnew\\b.*")).forEach(line ->
            Due.holds("made as a field: " + line.trim(), line.matches(" +(private )?(final )?[A-Z\\w\\[\\]]+ \\w+ = .*;")
                && !line.startsWith("            ")));
    }

    private static void methodsAreShort(String source) {
        Matcher m = Pattern.compile("(?m)^( {4}| {8})(?:public|private|static|int|void|boolean|Make)[^;=]*?\\) \\{$")
            .matcher(source);
        while (m.find()) {
            int end = source.indexOf("\n" + m.group(1) + "}", m.start());
            long lines = source.substring(m.start(), end).lines().count();
            Due.holds(m.group().trim() + " is short", lines <= 60);
        }
    }
}
