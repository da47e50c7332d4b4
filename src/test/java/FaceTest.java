import java.io.IOException;
import java.lang.reflect.Constructor;
import java.lang.reflect.Field;
import java.lang.reflect.Method;
import java.lang.reflect.Modifier;
import java.nio.file.Files;
import java.nio.file.Path;
import java.util.ArrayList;
import java.util.Arrays;
import java.util.List;
import java.util.Set;
import java.util.TreeSet;
import java.util.regex.Matcher;
import java.util.regex.Pattern;
import java.util.stream.Collectors;

/** The face is the document's and nothing more; the source uses none of the words that LANGUAGE.md leaves out. */
public final class FaceTest {
    private static final List<String> WRONG = new ArrayList<>();

    public static void main(String[] args) throws IOException {
        String doc = Files.readString(Path.of("../shared/DOC.md"));
        compareMethods(doc);
        checkFields();
        checkConstructors();
        checkInnerClasses();
        checkWords(Files.readString(Path.of("src/main/java/LeeVanes.java")));
        for (String line : WRONG) {
            System.out.println(line);
        }
        System.out.println(WRONG.isEmpty() ? "the face is as due" : "the face is not as due");
        if (!WRONG.isEmpty()) {
            System.exit(1);
        }
    }

    private static void compareMethods(String doc) {
        Set<String> want = new TreeSet<>();
        Matcher line = Pattern.compile("(?m)^ {4}public (int|long) (\\w+)\\(([^)]*)\\);$").matcher(doc);
        while (line.find()) {
            String types = line.group(3).replaceAll("(int|long) \\w+", "$1");
            want.add(line.group(1) + " " + line.group(2) + "(" + types + ")");
        }
        Set<String> got = new TreeSet<>();
        Set<String> publicNames = new TreeSet<>();
        for (Method m : LeeVanes.class.getDeclaredMethods()) {
            if (!Modifier.isPrivate(m.getModifiers())) {
                String types = Arrays.stream(m.getParameterTypes()).map(Class::toString).collect(Collectors.joining(", "));
                got.add(m.getReturnType() + " " + m.getName() + "(" + types + ")");
                due(!Modifier.isStatic(m.getModifiers()), m + " is static");
                publicNames.add(m.getName());
                due(Modifier.isPublic(m.getModifiers()), m + " is neither public nor private");
            }
        }
        due(want.size() == 33, "the document tells " + want.size() + " methods");
        due(got.equals(want), "methods " + got + ", due are " + want);
        List<Class<?>> all = new ArrayList<>(List.of(LeeVanes.class.getDeclaredClasses()));
        all.add(LeeVanes.class);
        for (Class<?> c : all) {
            for (Method m : c.getDeclaredMethods()) {
                boolean isFace = c == LeeVanes.class && Modifier.isPublic(m.getModifiers());
                due(isFace || !publicNames.contains(m.getName()), m + " bears the name of a public one");
                due(m.getParameterCount() <= 7, m + " has too many parameters");
            }
        }
    }

    private static void checkFields() {
        Set<String> open = new TreeSet<>();
        for (Field f : LeeVanes.class.getDeclaredFields()) {
            int is = f.getModifiers();
            if (!Modifier.isPrivate(is)) {
                open.add(f.getName());
                due(Modifier.isPublic(is) && Modifier.isStatic(is) && Modifier.isFinal(is), f + " is no public constant");
            }
            due(!Modifier.isStatic(is) || Modifier.isFinal(is), f + " is static, but not final");
        }
        due(open.equals(new TreeSet<>(List.of("UNKNOWN", "OUTSIDE", "STATE", "FULL", "NONE", "LOST"))), "fields " + open);
        due(LeeVanes.UNKNOWN == -1 && LeeVanes.OUTSIDE == -2 && LeeVanes.STATE == -3, "UNKNOWN, OUTSIDE or STATE");
        due(LeeVanes.FULL == -4 && LeeVanes.NONE == -9 && LeeVanes.LOST == Long.MIN_VALUE, "FULL, NONE or LOST");
    }

    private static void checkConstructors() {
        Constructor<?>[] all = LeeVanes.class.getDeclaredConstructors();
        due(all.length == 1 && all[0].getParameterCount() == 0, "there is not just the one constructor");
        due(Modifier.isPublic(all[0].getModifiers()), "the constructor is not public");
        due(Modifier.isFinal(LeeVanes.class.getModifiers()), "the class is not final");
    }

    private static void checkInnerClasses() {
        for (Class<?> c : LeeVanes.class.getDeclaredClasses()) {
            due(Modifier.isStatic(c.getModifiers()), c + " is not static");
            due(!Modifier.isPublic(c.getModifiers()) && !Modifier.isProtected(c.getModifiers()), c + " is open");
            due(c.getDeclaredFields().length <= 20, c + " has too many fields");
        }
        due(LeeVanes.class.getDeclaredClasses().length < 12, "too many classes");
    }

    private static void checkWords(String source) {
        String bare = source.replaceAll("(?s)/\\*.*?\\*/", "").replaceAll("//[^\n]*", "");
        String[] words = {"throw", "throws", "try", "catch", "finally", "synchronized", "assert", "->", "::", "System\\.(?!arraycopy)",
            "Random", "Thread", "hashCode", "toString", "\\w+Exact"};
        for (String word : words) {
            String pattern = Character.isLetter(word.charAt(0)) ? "\\b" + word : word;
            boolean whole = word.endsWith("Exact") || Character.isLetter(word.charAt(word.length() - 1));
            Matcher found = Pattern.compile(whole ? pattern + "\\b" : pattern).matcher(bare);
            due(!found.find(), "the source uses " + word);
        }
        for (int i = 0; i < source.length(); i++) {
            due(source.charAt(i) < 128, "a sign above 127 at " + i);
        }
        due(Pattern.compile("(?m)^import (?!java\\.util\\.(Arrays|ArrayList|List|Iterator);)").matcher(bare).results().count() == 0,
            "the source imports more than it may");
    }

    private static void due(boolean holds, String what) {
        if (!holds) {
            WRONG.add(what);
        }
    }
}
