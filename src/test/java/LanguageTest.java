import java.lang.reflect.Member;
import java.lang.reflect.Method;
import java.lang.reflect.Modifier;
import java.nio.file.Files;
import java.nio.file.Path;
import java.util.ArrayList;
import java.util.List;
import java.util.Set;
import java.util.TreeSet;
import java.util.regex.Matcher;
import java.util.regex.Pattern;

/** The rules of LANGUAGE.md that can be seen in the source or in the compiled class. */
public final class LanguageTest {
    private static int wrong = 0;

    private static void expect(boolean good, String rule) {
        if (!good) {
            wrong++;
            System.out.println("broken: " + rule);
        }
    }

    private static String withoutComments(String source) {
        return source.replaceAll("(?s)/\\*.*?\\*/", "").replaceAll("//[^\n]*", "").replaceAll("\"[^\"]*\"", "\"\"");
    }

    private static void words(String source) {
        String[] banned = {"throw", "throws", "try", "catch", "synchronized", "assert", "double", "float", "Object", "hashCode", "toString",
            "Exact", "System\\.(?!arraycopy)", "->", "::", "Random", "Thread", "volatile", "protected", "package", "NaN"};
        for (String b : banned) {
            String pattern = Character.isLetter(b.charAt(0)) && !b.contains("\\") ? "\\b" + b + "\\b" : b;
            expect(!Pattern.compile(pattern).matcher(source).find(), "no " + b);
        }
        Set<String> imports = new TreeSet<>();
        Matcher m = Pattern.compile("import ([^;]*);").matcher(source);
        while (m.find()) imports.add(m.group(1));
        expect(Set.of("java.util.Arrays").containsAll(imports), "imports " + imports);
    }

    private static void face() {
        List<String> open = new ArrayList<>();
        List<Member> members = new ArrayList<>();
        members.addAll(List.of(LeaningStreet.class.getDeclaredFields()));
        members.addAll(List.of(LeaningStreet.class.getDeclaredMethods()));
        for (Member m : members) if (!Modifier.isPrivate(m.getModifiers()) && !m.isSynthetic()) open.add(m.getName());
        expect(open.size() == 48, "8 constants and 40 methods, not " + open.size());
        for (Member m : members) {
            boolean good = Modifier.isPrivate(m.getModifiers()) || Modifier.isPublic(m.getModifiers()) || m.isSynthetic();
            expect(good, "public or private: " + m.getName());
        }
        expect(LeaningStreet.class.getDeclaredConstructors().length == 1, "one constructor");
        expect(Modifier.isFinal(LeaningStreet.class.getModifiers()), "final");
        noNameTwice();
    }

    private static void noNameTwice() {
        Set<String> names = new TreeSet<>();
        for (Method m : LeaningStreet.class.getDeclaredMethods()) if (Modifier.isPublic(m.getModifiers())) names.add(m.getName());
        for (Method m : LeaningStreet.class.getDeclaredMethods()) {
            expect(Modifier.isPublic(m.getModifiers()) || !names.contains(m.getName()), "own name for " + m.getName());
        }
        expect(LeaningStreet.class.getDeclaredClasses().length <= 12, "at most twelve classes");
        for (Class<?> c : LeaningStreet.class.getDeclaredClasses()) {
            expect(Modifier.isStatic(c.getModifiers()), "static: " + c);
            int fields = 0;
            for (java.lang.reflect.Field f : c.getDeclaredFields()) fields += Modifier.isStatic(f.getModifiers()) ? 0 : 1;
            expect(fields <= 20, "at most twenty fields: " + c);
            for (Method m : c.getDeclaredMethods()) {
                expect(!names.contains(m.getName()), "own name for " + m.getName());
                expect(m.getParameterCount() <= 7, "at most seven parameters: " + m.getName());
            }
        }
    }

    /** By the indents: a method's line ends with { and its end is the next } with the same indent. */
    private static void lengths(String source) {
        String[] lines = source.split("\n");
        for (int i = 0; i < lines.length; i++) {
            if (!lines[i].matches("(    |        )[a-zA-Z].*\\) \\{") || lines[i].trim().matches("(if|for|while|switch) .*")) continue;
            String indent = lines[i].substring(0, lines[i].length() - lines[i].trim().length());
            int j = i + 1;
            while (j < lines.length && !lines[j].equals(indent + "}")) j++;
            expect(j - i <= 60, "a short method: " + lines[i].trim());
        }
    }

    public static void main(String[] args) throws Exception {
        String source = Files.readString(Path.of("src/main/java/LeaningStreet.java"));
        for (char c : source.toCharArray()) expect(c == '\n' || c >= 32 && c < 127, "sign " + (int) c);
        words(withoutComments(source));
        lengths(source);
        face();
        System.out.println(wrong == 0 ? "the rules hold" : wrong + " rules are broken");
        if (wrong != 0) System.exit(1);
    }
}
