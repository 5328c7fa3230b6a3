import java.io.IOException;
import java.lang.reflect.Constructor;
import java.lang.reflect.Field;
import java.lang.reflect.Method;
import java.lang.reflect.Modifier;
import java.nio.file.Files;
import java.nio.file.Path;
import java.util.ArrayList;
import java.util.List;
import java.util.regex.Matcher;
import java.util.regex.Pattern;

/** Those rules of LANGUAGE.md that can be read off the file or the class. */
final class RulesTest {
    private static final Path FILE = Path.of("src/main/java/RankHouse.java");
    private static final String[] NOWHERE = {"\\bimport\\b", "\\bpackage\\b", "->", "::", "\\bsynchronized\\b", "\\bassert\\b",
        "\\bfinally\\b", "\\bnative\\b", "\\bvolatile\\b", "\\btransient\\b", "\\bThread\\b", "\\bRandom\\b", "\\bhashCode\\b",
        "\\btoString\\b", "Exact\\b", "\\bgetMessage\\b", "\\bvar\\b", "\\byield\\b", "\\bstatic \\{", "\\.stream\\b", "\\bclone\\b"};

    private RulesTest() {
    }

    public static void main(String[] args) throws IOException {
        String code = Files.readString(FILE).replaceAll("(?s)/\\*.*?\\*/", "").replaceAll("//[^\\n]*", "");
        nothingThatIsRuledOut(code);
        libraryCalls(code);
        thrownOnlyByWord(code);
        shortMethods(code);
        classesAndMembers();
        Check.end();
    }

    private static void nothingThatIsRuledOut(String code) {
        for (String pattern : NOWHERE) {
            Check.due("rules: " + pattern, false, Pattern.compile(pattern).matcher(code).find());
        }
    }

    private static void libraryCalls(String code) {
        Matcher call = Pattern.compile("\\b(System|Math|Integer|Long|Arrays)\\.(\\w+)").matcher(code);
        while (call.find()) {
            boolean listed = call.group().matches("System\\.arraycopy|Math\\.(min|max)|Integer\\.(MIN|MAX)_VALUE");
            Check.due("rule 4: " + call.group(), true, listed);
        }
    }

    private static void thrownOnlyByWord(String code) {
        Matcher thrown = Pattern.compile("\\bthrow\\b[^;]*;").matcher(code);
        String form = "throw new (IllegalState|IllegalArgument|IndexOutOfBounds)Exception\\(\"[^\"]*\"\\);";
        while (thrown.find()) {
            Check.due("rule 6: " + thrown.group(), true, thrown.group().matches(form));
        }
    }

    /** A method's head stands at one depth of braces, its end is the brace that brings the depth back. */
    private static void shortMethods(String code) {
        List<Integer> begun = new ArrayList<>();
        String[] lines = code.split("\n");
        for (int i = 0; i < lines.length; i++) {
            for (char sign : lines[i].toCharArray()) {
                if (sign == '{') {
                    begun.add(i);
                } else if (sign == '}') {
                    int from = begun.remove(begun.size() - 1);
                    boolean isClass = lines[from].contains("class ");
                    Check.due("rule 11: line " + (from + 1), true, isClass || i - from <= 60);
                }
            }
        }
        Check.due("braces", 0, begun.size());
    }

    private static void classesAndMembers() {
        Class<?>[] inside = RankHouse.class.getDeclaredClasses();
        Check.due("rule 11: some twelve classes", true, inside.length + 1 <= 12);
        members(RankHouse.class);
        for (Class<?> one : inside) {
            int modifiers = one.getModifiers();
            Check.due("rule 1: " + one.getName() + " is static", true, Modifier.isStatic(modifiers));
            Check.due("rule 1: " + one.getName() + " is not public", false, Modifier.isPublic(modifiers) || Modifier.isProtected(modifiers));
            members(one);
        }
    }

    private static void members(Class<?> one) {
        int fields = 0;
        for (Field field : one.getDeclaredFields()) {
            boolean constant = Modifier.isStatic(field.getModifiers());
            fields += constant ? 0 : 1;
            Check.due("rule 5: " + field, true, !constant || Modifier.isFinal(field.getModifiers()) && field.getType() == int.class);
        }
        Check.due("rule 11: fields of " + one.getName(), true, fields <= 20);
        for (Method method : one.getDeclaredMethods()) {
            Check.due("rule 11: " + method, true, method.getParameterCount() <= 7);
        }
        for (Constructor<?> constructor : one.getDeclaredConstructors()) {
            Check.due("rule 11: " + constructor, true, constructor.getParameterCount() <= 7);
        }
    }
}
