import java.io.IOException;
import java.lang.reflect.Field;
import java.lang.reflect.Method;
import java.lang.reflect.Modifier;
import java.nio.file.Files;
import java.nio.file.Path;
import java.util.ArrayList;
import java.util.Arrays;
import java.util.List;
import java.util.Set;
import java.util.regex.Matcher;
import java.util.regex.Pattern;

/** The rules of LANGUAGE.md that can be seen in the words of the source and in its classes. */
public final class LanguageTest {
    private static final Check CHECK = new Check();
    private static final Path SOURCE = Path.of("src/main/java/GiftOffice.java");
    private static final int MOST_CLASSES = 12, MOST_FIELDS = 20, MOST_PARAMETERS = 7, MOST_LINES = 60;

    public static void main(String[] args) throws IOException {
        String source = Files.readString(SOURCE);
        String code = withoutTexts(source);
        for (int i = 0; i < source.length(); i++) {
            CHECK.holds("a sign of 1 to 127 at " + i, source.charAt(i) > 0 && source.charAt(i) < 128);
        }
        words(code);
        lengths(code);
        List<Class<?>> classes = new ArrayList<>(List.of(GiftOffice.class));
        classes.addAll(Arrays.asList(GiftOffice.class.getDeclaredClasses()));
        CHECK.holds("at most twelve classes, not " + classes.size(), classes.size() <= MOST_CLASSES);
        for (Class<?> one : classes) {
            shape(one);
        }
        CHECK.end();
    }

    /** The source with comments taken out and with nothing between quotes. */
    private static String withoutTexts(String source) {
        return source.replaceAll("(?s)/\\*.*?\\*/", "").replaceAll("//[^\n]*", "")
                .replaceAll("\"[^\"\n]*\"", "\"\"").replaceAll("'[^'\n]'", "' '");
    }

    private static void words(String code) {
        String[] never = {"\\bthrow\\b", "\\bthrows\\b", "\\btry\\b", "\\bcatch\\b", "\\bfinally\\b",
            "\\bsynchronized\\b", "\\bassert\\b", "->", "::", "\\bpackage\\b", "\\bimport\\b", "\\bvar\\b",
            "\\bequals\\b", "\\bhashCode\\b", "\\btoString\\b", "\\bdouble\\b", "\\bfloat\\b", "\\bSystem\\b",
            "\\bThread\\b", "\\bObject\\b", "\\bgetClass\\b", "\\bvolatile\\b", "\\bnative\\b", "\\btransient\\b",
            "static\\s*\\{", "\\bprotected\\b", "Exact\\b", "\"\\s*\\+", "\\+\\s*\"", "\\bthis\\s*::", "@"};
        for (String word : never) {
            Matcher m = Pattern.compile(word).matcher(code);
            CHECK.holds("no " + word, !m.find());
        }
        Set<String> known = Set.of("Math.max", "Math.min", "Math.abs");
        Matcher m = Pattern.compile("\\b(Math|Integer|Long|Arrays|String)\\.\\w+").matcher(code);
        while (m.find()) {
            CHECK.holds(m.group() + " is of the library", known.contains(m.group()));
        }
    }

    private static void lengths(String code) {
        int start = -1;
        int line = 0;
        for (String text : code.split("\n")) {
            line++;
            if (text.matches("    (    )?\\S.*\\) \\{") && !text.matches("\\s*(if|for|while|switch|} else).*")) {
                start = line;
            }
            if (text.matches("    (    )?\\}") && start > 0) {
                CHECK.holds("at most " + MOST_LINES + " lines from " + start, line - start <= MOST_LINES);
                start = -1;
            }
        }
    }

    private static void shape(Class<?> one) {
        Set<Class<?>> constants = Set.of(int.class, long.class, boolean.class, char.class, String.class,
                int[].class, long[].class, char[].class, byte[].class);
        int fields = 0;
        for (Field f : one.getDeclaredFields()) {
            if (Modifier.isStatic(f.getModifiers())) {
                CHECK.holds(f + " is a constant", Modifier.isFinal(f.getModifiers())
                        && constants.contains(f.getType()));
            } else {
                fields++;
            }
        }
        CHECK.holds(one + " has at most " + MOST_FIELDS + " fields, not " + fields, fields <= MOST_FIELDS);
        for (Method m : one.getDeclaredMethods()) {
            CHECK.holds(m + " takes at most seven", m.getParameterCount() <= MOST_PARAMETERS);
        }
        CHECK.holds(one + " is static, or the face", one == GiftOffice.class
                || Modifier.isStatic(one.getModifiers()) && !Modifier.isPublic(one.getModifiers()));
        CHECK.holds(one + " has no class inside", one == GiftOffice.class || one.getDeclaredClasses().length == 0);
    }
}
