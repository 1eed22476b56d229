import java.io.IOException;
import java.lang.reflect.Member;
import java.lang.reflect.Modifier;
import java.nio.file.Files;
import java.nio.file.Path;
import java.util.ArrayList;
import java.util.Arrays;
import java.util.List;
import java.util.TreeSet;
import java.util.regex.Matcher;
import java.util.regex.Pattern;
import java.util.stream.Stream;

/** What of ../shared/LANGUAGE.md can be seen from the text and the face of LeadLetters. */
public final class LanguageTest {
    private static final String[] FACE = {"sort(II)", "cast(II)", "many(II)", "day(I)", "feed(JI)", "text(I)", "force(II)",
        "verse()", "line(III)", "needs(III)", "enough(II)", "page(I)", "pull(II)", "down(I)", "press(II)", "order(II)",
        "done(II)", "leaf(IIII)", "shows(II)", "as(II)", "copies(I)", "state(I)", "allowed(I)", "hand(I)", "rival(II)",
        "ahead(II)", "runs(II)", "loan(III)", "pay(III)", "owe(II)", "thing(II)", "suit(I)", "tried(II)", "image()", "undo()",
        "count(I)"};
    private static final String[] RULED_OUT = {"\\bthrows?\\b", "\\btry\\b", "\\bcatch\\b", "\\bsynchronized\\b", "\\bassert\\b",
        "->", "::", "\\bObject\\b", "\\bMap\\b", "\\bSet\\b", "Exact\\(", "\\bSystem\\.(?!arraycopy)", "\\bThread\\b",
        "\\bRandom\\b", "\" *\\+", "\\+ *\"", "\\bstatic *\\{", "\\bprotected\\b", "\\bvar\\b", "\\byield\\b", "\\bhashCode\\b",
        "\\bequals\\b", "\\binstanceof\\b", "\\bwhile *\\(true", "\\bfloat\\b", "\\bdouble\\b"};

    private static int wrong = 0;

    public static void main(String[] args) throws Exception {
        face();
        String code = Files.readString(Path.of("src/main/java/LeadLetters.java"));
        text(code.replaceAll("(?s)/\\*.*?\\*/", "").replaceAll("//[^\n]*", ""));
        lengths(code);
        System.out.println("LanguageTest: " + wrong + " wrong");
        if (wrong > 0) System.exit(1);
    }

    private static void say(boolean good, String what) {
        if (!good) {
            wrong++;
            System.out.println(what);
        }
    }

    private static void face() throws ReflectiveOperationException {
        Class<?> c = LeadLetters.class;
        say(Modifier.isFinal(c.getModifiers()) && Modifier.isPublic(c.getModifiers()), "the class is public and final");
        TreeSet<String> open = new TreeSet<>();
        TreeSet<String> hidden = new TreeSet<>();
        for (var method : c.getDeclaredMethods()) {
            StringBuilder s = new StringBuilder(method.getName()).append('(');
            for (Class<?> type : method.getParameterTypes()) s.append(type.descriptorString());
            if (Modifier.isPrivate(method.getModifiers())) {
                hidden.add(method.getName());
            } else {
                open.add(s.append(')').toString());
                say(method.getReturnType() == int.class, method + " answers an int");
            }
        }
        say(open.equals(new TreeSet<>(Arrays.asList(FACE))), "the face is " + open);
        List<Member> members = new ArrayList<>(Arrays.asList(c.getDeclaredFields()));
        members.removeIf(f -> Modifier.isPrivate(f.getModifiers()));
        say(members.size() == 4, "the constants are " + members);
        say(c.getDeclaredConstructors().length == 1 && c.getConstructors().length == 1, "one constructor");
        for (Class<?> inner : c.getDeclaredClasses()) {
            say(Modifier.isStatic(inner.getModifiers()), inner + " is static");
            for (var method : inner.getDeclaredMethods()) hidden.add(method.getName());
            say(Arrays.stream(inner.getDeclaredFields()).filter(f -> !Modifier.isStatic(f.getModifiers())).count() <= 20, inner + " has few fields");
        }
        for (String name : FACE) {
            say(!hidden.contains(name.substring(0, name.indexOf('('))), name + " is a name of the face alone");
        }
        say(c.getDeclaredClasses().length <= 12, "few classes");
    }

    private static void text(String code) {
        for (String sign : RULED_OUT) {
            Matcher m = Pattern.compile(sign).matcher(code);
            while (m.find()) {
                say(false, sign + " in: " + code.substring(code.lastIndexOf('\n', m.start()) + 1, code.indexOf('\n', m.start())).trim());
            }
        }
        Matcher imports = Pattern.compile("\\b(import|package) [^;]*;").matcher(code);
        while (imports.find()) {
            say(imports.group().equals("import java.util.ArrayList;"), imports.group());
        }
    }

    private static void lengths(String code) {
        String name = "";
        int begin = 0;
        String[] lines = code.split("\n");
        for (int i = 0; i < lines.length; i++) {
            if (lines[i].matches(" {4,8}(public|private|static|boolean|int|void|[A-Z]).*\\) \\{")) {
                name = lines[i].trim();
                begin = i;
            }
            if (lines[i].matches(" {4,8}\\}")) {
                say(i - begin < 60 || name.isEmpty() || lines[i].startsWith("    }"), name + " is " + (i - begin + 1) + " lines long");
            }
            say(lines[i].length() <= 120, "line " + (i + 1) + " is long");
            say(lines[i].chars().allMatch(c -> c < 128), "line " + (i + 1) + " has a sign that is no ASCII");
        }
    }
}
