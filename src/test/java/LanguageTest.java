import java.io.IOException;
import java.nio.file.Files;
import java.nio.file.Path;
import java.util.List;
import java.util.regex.Matcher;
import java.util.regex.Pattern;

/** The part of Java that ../shared/LANGUAGE.md leaves to the program, as far as its lines show it. */
final class LanguageTest {
    private static final List<String> FACE = List.of("feed", "end", "sync", "cut", "start", "verify", "octet", "poke", "count", "read", "fault",
        "on", "push", "pop", "find", "about", "atom", "print", "printed", "holds", "decide", "follows", "value", "height", "extreme", "number",
        "many", "core", "inCore", "alike", "places", "own", "half", "takes", "relaxed", "fraction", "search", "best", "prove", "line", "bound",
        "audit");

    public static void main(String[] args) throws IOException {
        String code = bare(Files.readString(Path.of("src/main/java/IntegerHouse.java")));
        words(code);
        library(code);
        made(code);
        methods(code);
        Checks.finish();
    }

    /** Without comments, texts and signs. */
    private static String bare(String source) {
        return source.replaceAll("(?s)/\\*.*?\\*/", "").replaceAll("//[^\n]*", "").replaceAll("\"(\\\\.|[^\"\\\\])*\"", "\"\"")
            .replaceAll("'(\\\\.|[^'\\\\])'", "' '");
    }

    private static int times(String code, String pattern) {
        int found = 0;
        for (Matcher m = Pattern.compile(pattern).matcher(code); m.find(); ) {
            found++;
        }
        return found;
    }

    private static void none(String code, String what, String pattern) {
        Checks.due(what, times(code, pattern), 0);
    }

    private static void words(String code) {
        none(code, "lambdas and arrows", "->");
        none(code, "method references", "::");
        none(code, "tries, catches, asserts, locks", "\\b(try|catch|finally|synchronized|assert|goto)\\b");
        none(code, "doubles", "\\b(double|float)\\b");
        none(code, "texts joined by +", "\"\" *\\+|\\+ *\"\"");
        none(code, "static initialisers", "static *\\{");
        none(code, "static state", "\\bstatic (?!final)[\\w\\[\\]]+ \\w+ *(=|;)");
        none(code, "a package", "(?m)^package");
        Checks.due("imports", times(code, "(?m)^import "), times(code, "(?m)^import java\\.util\\.Arrays;"));
        Checks.due("classes", times(code, "\\bclass \\w+") <= 12 ? 1 : 0, 1);
        Checks.due("classes inside are static", times(code, "\\bclass \\w+"), 1 + times(code, "private static final class \\w+"));
    }

    private static void library(String code) {
        none(code, "of Math", "\\bMath\\.(?!(abs|max|min|floorDiv|floorMod)\\()");
        none(code, "of Integer", "\\bInteger\\.(?!bitCount\\()");
        none(code, "of Long", "\\bLong\\.");
        none(code, "of Arrays", "\\bArrays\\.(?!fill\\()");
        none(code, "of System", "\\bSystem\\.(?!arraycopy\\()");
        none(code, "other classes", "\\b(Object|Thread|Random|Character|Boolean|Byte|Short|Double|Float|StringBuilder|List|ArrayList|Map)\\b");
    }

    /** No call makes an object: all stand in fields, but for exceptions that are thrown. */
    private static void made(String code) {
        for (String line : code.split("\n")) {
            if (line.contains("new ")) {
                String text = line.trim();
                boolean field = text.matches("private (final )?[\\w\\[\\]]+ \\w+ = new .*;");
                boolean thrown = text.matches("throw new (IllegalStateException|IllegalArgumentException|IndexOutOfBoundsException)\\(\"\"\\);");
                Checks.due(text, field || thrown ? 1 : 0, 1);
            }
        }
    }

    private static void methods(String code) {
        String[] lines = code.split("\n");
        Pattern head = Pattern.compile(" +(?:(?:public|private|static|final) )*[\\w\\[\\]]+ (\\w+)\\((.*)\\)(?: throws \\w+)? \\{");
        int faces = 0;
        for (int i = 0; i < lines.length; i++) {
            Matcher m = head.matcher(lines[i]);
            if (m.matches() && !lines[i].trim().startsWith("}") && !m.group(1).equals("IntegerHouse")) {
                int indent = lines[i].length() - lines[i].trim().length();
                int end = i;
                while (end < lines.length - 1 && !lines[end].equals(" ".repeat(indent) + "}")) {
                    end++;
                }
                boolean open = lines[i].trim().startsWith("public");
                faces += open ? 1 : 0;
                Checks.due("the length of " + m.group(1), end - i <= 60 ? 1 : 0, 1);
                Checks.due("parameters of " + m.group(1), m.group(2).split(",").length <= 7 ? 1 : 0, 1);
                Checks.due("a public name for " + m.group(1), FACE.contains(m.group(1)) ? 1 : 0, open ? 1 : 0);
            }
        }
        Checks.due("the face", faces, FACE.size());
    }
}
