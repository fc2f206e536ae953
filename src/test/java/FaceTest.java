import java.io.IOException;
import java.lang.reflect.Field;
import java.lang.reflect.Member;
import java.lang.reflect.Method;
import java.lang.reflect.Modifier;
import java.nio.file.Files;
import java.nio.file.Path;
import java.util.Set;
import java.util.TreeSet;
import java.util.regex.Matcher;
import java.util.regex.Pattern;

/** The public face of the document, and those rules of LANGUAGE.md that can be looked up. Run in the project's folder. */
public final class FaceTest {
    private static final String FACE = "write1 erase0 fault0 draft0 end2 pick2 treadle1 cross3 draw2 tie2 tread2 warp2 weft2 "
        + "sample0 turn0 undo0 keep1 back1 least1 sampled2 tamed2 changed2 spool1 wind2 pull2 knot1 measure2 rewind2 drop1 count1";
    private static final String CONSTANTS = "NONE-1 UNKNOWN-2 OUTSIDE-3 NOT-4 FULL-5 NULL-11 EMPTY-12 ROOM-13 SHORT-14";
    private static final String[] RULED_OUT = {
        "throw", "throws", "try", "catch", "finally", "synchronized", "assert", "import", "package", "->", "::",
        "hashCode", "toString", "Object", "System.out", "protected", "Exact", "volatile", "var"};
    private static final Set<String> LIBRARY = Set.of("Math.max", "Math.min", "Integer.bitCount", "System.arraycopy");

    public static void main(String[] args) throws Exception {
        methods();
        constants();
        innerClasses();
        source();
        library();
        lengths();
        Check.finish();
    }

    private static String code() throws IOException {
        String source = Files.readString(Path.of("src/main/java/WeaveDraft.java"));
        return source.replaceAll("//[^\n]*", "").replaceAll("(?s)/\\*.*?\\*/", "");
    }

    private static boolean isPrivate(Member member) {
        return Modifier.isPrivate(member.getModifiers());
    }

    private static void methods() throws Exception {
        Set<String> due = new TreeSet<>(Set.of(FACE.split(" ")));
        Set<String> seen = new TreeSet<>();
        for (Method method : WeaveDraft.class.getDeclaredMethods()) {
            if (!isPrivate(method)) {
                seen.add(method.getName() + method.getParameterCount());
                Check.holds(method + " answers int", method.getReturnType() == int.class);
                Check.holds(method + " is public", method.getModifiers() == Modifier.PUBLIC);
                for (Class<?> type : method.getParameterTypes()) {
                    Check.holds(method + " takes int", type == int.class);
                }
            }
        }
        Check.holds("methods " + seen + ", due is " + due, seen.equals(due));
        Check.holds("public and final", WeaveDraft.class.getModifiers() == (Modifier.PUBLIC | Modifier.FINAL));
        Check.due("constructors", WeaveDraft.class.getDeclaredConstructors().length, 1);
        Check.due("public constructor", WeaveDraft.class.getDeclaredConstructor().getModifiers(), Modifier.PUBLIC);
    }

    private static void constants() throws Exception {
        Set<String> due = new TreeSet<>(Set.of(CONSTANTS.split(" ")));
        Set<String> seen = new TreeSet<>();
        for (Field field : WeaveDraft.class.getDeclaredFields()) {
            if (!isPrivate(field)) {
                Check.due(field + " modifiers", field.getModifiers(), Modifier.PUBLIC | Modifier.STATIC | Modifier.FINAL);
                seen.add(field.getName() + field.getInt(null));
            }
        }
        Check.holds("constants " + seen + ", due is " + due, seen.equals(due));
    }

    private static void innerClasses() {
        Set<String> face = new TreeSet<>();
        for (Method method : WeaveDraft.class.getDeclaredMethods()) {
            if (!isPrivate(method)) {
                face.add(method.getName());
            }
        }
        privateNames(WeaveDraft.class, face);
        Class<?>[] inner = WeaveDraft.class.getDeclaredClasses();
        Check.holds("twelve classes at most", inner.length < 12);
        for (Class<?> one : inner) {
            Check.holds(one + " is static", Modifier.isStatic(one.getModifiers()));
            Check.due(one + " has no classes inside", one.getDeclaredClasses().length, 0);
            privateNames(one, face);
        }
    }

    private static void privateNames(Class<?> one, Set<String> face) {
        int fields = 0;
        for (Method method : one.getDeclaredMethods()) {
            boolean ofTheFace = one == WeaveDraft.class && !isPrivate(method);
            Check.holds(method + " has a name of its own", ofTheFace || !face.contains(method.getName()));
            Check.holds(method + " takes seven at most", method.getParameterCount() <= 7);
        }
        for (Field field : one.getDeclaredFields()) {
            boolean isStatic = Modifier.isStatic(field.getModifiers());
            Check.holds(field + " is final", !isStatic || Modifier.isFinal(field.getModifiers()));
            fields += isStatic ? 0 : 1;
        }
        Check.holds(one + " has twenty fields at most", fields <= 20);
    }

    private static void source() throws IOException {
        String source = Files.readString(Path.of("src/main/java/WeaveDraft.java"));
        Check.holds("plain signs alone", source.chars().allMatch(sign -> sign == '\n' || sign >= 32 && sign < 127));
        String code = code();
        for (String word : RULED_OUT) {
            boolean isName = Character.isLetter(word.charAt(0));
            String pattern = isName ? "\\b" + Pattern.quote(word) + "\\b" : Pattern.quote(word);
            Check.holds("no " + word, !Pattern.compile(pattern).matcher(code).find());
        }
        // rows are made once, with the object: a call makes none
        Matcher made = Pattern.compile("\n( *)[^\n]*\\bnew (int|boolean|Draft|Spool)\\b[^\n]*").matcher(code);
        int places = 0;
        while (made.find()) {
            places++;
            boolean ofField = made.group().contains("final");
            boolean inConstructor = made.group().matches("(?s)\n *(ring|kept|spools)\\[\\w\\] = new .*");
            Check.holds("made with the object:" + made.group(), ofField || inConstructor);
        }
        Check.holds("places where rows are made are found", places > 10);
    }

    /** Rule 4: of the library only what the class is known to use, all of it listed there. */
    private static void library() throws IOException {
        Matcher used = Pattern.compile("\\b(Math|Integer|Long|System|Arrays|Character|String|List|Boolean)\\.(\\w+)").matcher(code());
        int places = 0;
        while (used.find()) {
            places++;
            Check.holds(used.group() + " is listed", LIBRARY.contains(used.group()));
        }
        Check.holds("places where the library is used are found", places > 10);
    }

    /** Rule 11: methods stay short, some sixty lines. */
    private static void lengths() throws IOException {
        Matcher method = Pattern.compile("(?ms)^( {4}| {8})(?=\\w)(?!for |if |while |switch )[^\n]*\\) \\{\n(.*?)^\\1\\}").matcher(code());
        int methods = 0;
        while (method.find()) {
            methods++;
            long lines = method.group(2).lines().count();
            Check.holds(method.group().lines().findFirst().orElse("") + " has " + lines + " lines", lines <= 60);
        }
        Check.holds("methods are found", methods > 100);
    }
}
