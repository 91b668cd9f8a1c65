import java.io.IOException;
import java.lang.reflect.Field;
import java.lang.reflect.Method;
import java.lang.reflect.Modifier;
import java.nio.file.Files;
import java.nio.file.Path;
import java.util.ArrayList;
import java.util.List;
import java.util.Set;
import java.util.TreeSet;
import java.util.regex.Matcher;
import java.util.regex.Pattern;

/** Looks for what LANGUAGE.md forbids, in the source and in the compiled class; a row's number is the rule's. */
public final class SourceTest {
    private static final Check check = new Check();
    private static final Path SOURCE = Path.of("src/main/java/HangingCards.java");

    private static final String[] FACE = {
        "int card(int,long)", "int hole(int,int,int)", "int handle(int,int)", "int run(int,int,int)",
        "int write(int,long)", "int wipe()", "int fault()", "int force()", "int rule(int,int,int)",
        "int why(int,int,int)", "int clash()", "int counted(int,int,int,int,boolean)", "int vote(int,int,int,boolean)",
        "int winner(int,int,boolean)", "int byRule(int,int)", "int mixed(int,int,int)", "int turned(int,int,int)",
        "int least(int,int,int)", "int meant(int,int,int)", "int otherwise(int,int,int,int)", "int listed(long,int)",
        "int voter(long,int,int)", "int likeness(int)", "int like(int,int)", "int struck(int,int)",
        "int strikes(int,int)", "int boxes(int,int,int)", "int could(int,int,int)", "int hands(int,int)",
        "int soonest(int,int)", "int table(int,int,int,int,int)", "int left(int,int,int)", "int keep()", "int back()",
        "int count(int)"};

    public static void main(String[] args) throws IOException {
        String code = withoutComments(Files.readString(SOURCE));
        heads(code);
        face();
        classes();
        words(code);
        library(code);
        arrays(code);
        methods(code);
        check.end("SourceTest");
    }

    private static void none(int rule, String what, int many) {
        check.due("rule " + rule + ": " + what, 0, many);
    }

    private static String withoutComments(String source) {
        return source.replaceAll("(?s)/\\*.*?\\*/", "").replaceAll("//[^\n]*", "");
    }

    private static int found(String code, String pattern) {
        int many = 0;
        for (Matcher m = Pattern.compile(pattern).matcher(code); m.find(); ) many++;
        return many;
    }

    private static String signature(Method m) {
        List<String> types = new ArrayList<>();
        for (Class<?> type : m.getParameterTypes()) types.add(type.getSimpleName());
        return m.getReturnType().getSimpleName() + " " + m.getName() + "(" + String.join(",", types) + ")";
    }

    /** The document's face stands in the source word for word: the class, its constants, each head with its names. */
    private static void heads(String code) throws IOException {
        String document = Files.readString(Path.of("../shared/DOC.md"));
        int start = document.indexOf("```java");
        int end = document.indexOf("```", start + 3);
        check.due("the document's face is found", 1, start > 0 && end > start ? 1 : 0);
        if (start < 0 || end < start) return;
        int heads = 0;
        for (String line : document.substring(start, end).split("\n")) {
            if (!line.contains("public ")) continue;
            heads++;
            String head = line.endsWith(");") ? line.substring(0, line.length() - 1) + " {" : line;
            check.due("rule 1: \"" + head.trim() + "\" stands", 1, found(code, "(?m)^" + Pattern.quote(head) + "$"));
        }
        check.due("the document's heads, the class, the constants and the constructor", FACE.length + 3, heads);
    }

    private static void face() {
        Set<String> due = new TreeSet<>(List.of(FACE));
        Set<String> names = new TreeSet<>();
        for (String one : due) names.add(one.substring(4, one.indexOf('(')));
        int publics = 0;
        for (Method m : HangingCards.class.getDeclaredMethods()) {
            if (Modifier.isPublic(m.getModifiers())) {
                publics++;
                check.due("rule 1: " + signature(m), 1, due.contains(signature(m)) ? 1 : 0);
            } else {
                check.due("rule 1: not private: " + m.getName(), 1, Modifier.isPrivate(m.getModifiers()) ? 1 : 0);
                none(1, "the name of a public one: " + m.getName(), names.contains(m.getName()) ? 1 : 0);
            }
        }
        check.due("rule 1: public methods", FACE.length, publics);
        check.due("rule 1: constructors", 1, HangingCards.class.getConstructors().length);
        int constants = 0;
        for (Field f : HangingCards.class.getDeclaredFields()) {
            if (Modifier.isPublic(f.getModifiers())) constants++;
            else check.due("rule 1: not private: " + f.getName(), 1, Modifier.isPrivate(f.getModifiers()) ? 1 : 0);
        }
        check.due("rule 1: constants", 4, constants);
        check.due("BAD", -1, HangingCards.BAD);
        check.due("NO", -2, HangingCards.NO);
        check.due("FULL", -3, HangingCards.FULL);
        check.due("NONE", -4, HangingCards.NONE);
    }

    private static void classes() {
        Class<?>[] inside = HangingCards.class.getDeclaredClasses();
        none(11, "more than twelve classes", Math.max(0, inside.length + 1 - 12));
        for (Class<?> one : inside) {
            check.due("rule 2: static " + one.getName(), 1, Modifier.isStatic(one.getModifiers()) ? 1 : 0);
            int fields = 0;
            for (Field f : one.getDeclaredFields()) {
                if (!Modifier.isStatic(f.getModifiers())) fields++;
                else check.due("rule 5: " + f.getName(), 1, Modifier.isFinal(f.getModifiers()) ? 1 : 0);
            }
            none(11, "more than twenty fields in " + one.getName(), Math.max(0, fields - 20));
            for (Method m : one.getDeclaredMethods()) {
                none(11, "more than seven parameters: " + m.getName(), Math.max(0, m.getParameterCount() - 7));
                for (String called : FACE) none(1, "a public one's name: " + m, called.startsWith("int " + m.getName() + "(") ? 1 : 0);
            }
        }
    }

    private static void words(String code) {
        String[] forbidden = {"import", "package", "throw", "throws", "try", "catch", "finally", "synchronized", "assert",
            "instanceof", "volatile", "native", "float", "double", "equals", "hashCode", "toString", "lambda"};
        for (String word : forbidden) none(6, word, found(code, "\\b" + word + "\\b"));
        none(2, "a lambda or a method reference", found(code, "->|::"));
        none(5, "a static block", found(code, "static\\s*\\{"));
        none(10, "a text", found(code, "\""));
        none(9, "a loop without a condition", found(code, "for \\([^;]*;\\s*;|while \\(true\\)"));
    }

    private static void library(String code) {
        none(4, "a library's call", found(code.replaceAll("\\bMath\\.(max|min)\\(|\\bInteger\\.bitCount\\(", ""),
            "\\b(Math|Integer|Long|System|Arrays|String|StringBuilder|List|ArrayList|Object|Thread|Random)\\b"));
        none(5, "static and not final", found(code, "static (?!final|int \\w+\\(|boolean \\w+\\()"));
    }

    /** Rows hold all numbers: there alone an array is made and used, and there each index is tested. */
    private static void arrays(String code) {
        int start = code.indexOf("class Row {");
        int end = code.indexOf("class Pile {");
        check.due("rule 7: the rows are found", 1, start > 0 && end > start ? 1 : 0);
        none(7, "an array beside the rows", found(code.substring(0, start) + code.substring(end), "\\[|\\]"));
        none(7, "a division by what is not written out or tested",
            found(code, "[/%] (?!2\\b|FIGURES|longer\\b|by\\b)"));
        none(7, "a cast that is none to int", found(code, "\\((?!int\\))(long|char|byte|short|boolean|[A-Z]\\w*)\\) ?[\\w(]"));
    }

    private static void methods(String code) {
        String[] lines = code.split("\n");
        int start = 0;
        for (int line = 0; line < lines.length; line++) {
            if (lines[line].matches(" {4,8}[^ ].*\\) \\{")) start = line;
            if (lines[line].matches(" {4,8}\\}")) none(11, "longer than sixty lines, at " + line, Math.max(0, line - start - 60) / 60);
        }
    }
}
