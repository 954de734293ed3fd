import java.io.IOException;
import java.nio.file.Files;
import java.nio.file.Path;
import java.util.HashSet;
import java.util.Set;
import java.util.regex.Matcher;
import java.util.regex.Pattern;

/** The rules of LANGUAGE.md that a look at the source can tell. */
public final class LanguageTest {
    private static final Due DUE = new Due();
    private static final String[] BARRED = {
        "\\bthrow\\b", "\\bthrows\\b", "\\btry\\b", "\\bcatch\\b", "\\bfinally\\b", "\\bsynchronized\\b", "\\bassert\\b", "->", "::",
        "\\bimport\\b", "\\bpackage\\b", "\\bprotected\\b", "\\bnative\\b", "\\bvolatile\\b", "\\btransient\\b", "Exact\\b", "static\\s*\\{",
        "\\bObject\\b", "\\bMap\\b", "\\bSystem\\.(?!arraycopy)", "@", "\\+ \"", "\" \\+", "\\bnew\\s+\\w+\\([^)]*\\)\\s*\\{",
    };
    private static final Pattern METHOD = Pattern.compile(
        "^( {4}| {8})((?:(?:public|private|static|final) )*)[\\w\\[\\]]+ ([a-z]\\w*)\\(([^)]*)\\) \\{$", Pattern.MULTILINE);

    public static void main(String[] args) throws IOException {
        String source = Files.readString(Path.of("src/main/java/NonsenseRows.java"));
        String code = source.replaceAll("(?s)/\\*.*?\\*/", "").replaceAll("//[^\n]*", "");
        DUE.about("rules 1 to 6");
        for (String barred : BARRED) {
            Matcher found = Pattern.compile(barred).matcher(code);
            DUE.is("what is barred: " + barred, found.results().count(), 0);
        }
        DUE.is("signs beyond 127", source.chars().filter(c -> c > 127).count(), 0);
        DUE.is("static fields that change", Pattern.compile("\\bstatic (?!final|class)[\\w\\[\\]]+ \\w+( =|;)").matcher(code).results().count(), 0);
        methods(code);
        DUE.about("rule 11");
        long classes = Pattern.compile("\\bclass \\w+").matcher(code).results().count();
        DUE.is(classes + " classes", classes <= 12 ? 1 : 0, 1);
        DUE.end("LanguageTest");
    }

    private static void methods(String code) {
        Set<String> face = new HashSet<>();
        Matcher each = METHOD.matcher(code);
        while (each.find()) {
            if (each.group(2).contains("public")) {
                face.add(each.group(3));
            }
        }
        DUE.about("rule 1");
        DUE.is("public methods", face.size(), 45 - 1);
        each.reset();
        while (each.find()) {
            String name = each.group(3);
            boolean open = each.group(2).contains("public");
            DUE.about("rule 1");
            DUE.is("a method of its own named " + name, !open && face.contains(name) ? 1 : 0, 0);
            DUE.is("not private in the face: " + name, each.group(1).length() == 4 && !open && !each.group(2).contains("private") ? 1 : 0, 0);
            DUE.about("rule 11");
            int given = each.group(4).isBlank() ? 0 : each.group(4).split(",").length;
            DUE.is(name + " takes " + given, given <= 7 ? 1 : 0, 1);
            int end = code.indexOf("\n" + each.group(1) + "}", each.start());
            long lines = code.substring(each.start(), end).lines().count();
            DUE.is(name + " has " + lines + " lines", lines <= 60 ? 1 : 0, 1);
        }
    }
}
