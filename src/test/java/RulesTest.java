import java.lang.reflect.Member;
import java.lang.reflect.Method;
import java.lang.reflect.Modifier;
import java.nio.file.Files;
import java.nio.file.Path;
import java.util.ArrayList;
import java.util.List;
import java.util.TreeSet;
import java.util.regex.Matcher;
import java.util.regex.Pattern;

/** The face is the document's, and the source keeps to those rules of LANGUAGE.md that can be seen in its words. */
public final class RulesTest {
    private static int wrong;

    private static void rule(boolean kept, String what) {
        if (!kept) {
            wrong++;
            System.out.println(what);
        }
    }

    public static void main(String[] args) throws Exception {
        face();
        classes();
        words();
        methods();
        System.out.println(wrong == 0 ? "the rules are kept" : wrong + " rules are broken");
        if (wrong != 0) {
            System.exit(1);
        }
    }

    private static void face() throws Exception {
        String document = Files.readString(Path.of("../shared/DOC.md"));
        String block = document.substring(document.indexOf("```java"));
        Matcher line = Pattern.compile("public int (\\w+)\\(([^)]*)\\);").matcher(block.substring(0, block.indexOf("\n```\n", 7)));
        TreeSet<String> due = new TreeSet<>();
        while (line.find()) {
            due.add(line.group(1) + "(" + line.group(2).replaceAll("(int|long) \\w+", "$1") + ")");
        }
        TreeSet<String> found = new TreeSet<>();
        List<String> hidden = new ArrayList<>();
        for (Method method : StiltParish.class.getDeclaredMethods()) {
            if (Modifier.isPublic(method.getModifiers())) {
                List<String> types = new ArrayList<>();
                for (Class<?> type : method.getParameterTypes()) {
                    types.add(type.getName());
                }
                found.add(method.getName() + "(" + String.join(", ", types) + ")");
            } else {
                hidden.add(method.getName());
            }
            rule(isFaceOrPrivate(method), method + " is neither public nor private");
        }
        rule(due.size() == 41 && due.equals(found), "the face is " + found + ", due is " + due);
        for (String name : hidden) {
            rule(due.stream().noneMatch(d -> d.startsWith(name + "(")), "a private method bears the name " + name);
        }
    }

    private static boolean isFaceOrPrivate(Member member) {
        return Modifier.isPublic(member.getModifiers()) || Modifier.isPrivate(member.getModifiers());
    }

    private static void classes() {
        rule(Modifier.isFinal(StiltParish.class.getModifiers()), "the class isn't final");
        rule(StiltParish.class.getDeclaredClasses().length + 1 <= 12, "more than twelve classes");
        for (java.lang.reflect.Field field : StiltParish.class.getDeclaredFields()) {
            rule(Modifier.isPrivate(field.getModifiers()), field + " isn't private");
        }
        for (Class<?> inside : StiltParish.class.getDeclaredClasses()) {
            rule(Modifier.isStatic(inside.getModifiers()), inside + " isn't static");
            int fields = 0;
            for (java.lang.reflect.Field field : inside.getDeclaredFields()) {
                boolean isStatic = Modifier.isStatic(field.getModifiers());
                rule(!isStatic || Modifier.isFinal(field.getModifiers()), field + " is static, but not final");
                fields += isStatic ? 0 : 1;
            }
            rule(fields <= 20, inside + " has " + fields + " fields");
        }
    }

    private static void words() throws Exception {
        String source = Files.readString(Path.of("src/main/java/StiltParish.java"));
        String code = source.replaceAll("(?s)/\\*.*?\\*/", "").replaceAll("//[^\n]*", "");
        String[] refused = {"\\bthrow\\b", "\\btry\\b", "\\bcatch\\b", "\\bsynchronized\\b", "\\bassert\\b", "->", "::", "\\bimport\\b",
            "\\bpackage\\b", "Exact\\b", "@", "\\bprotected\\b", "\\bSystem\\.(?!arraycopy\\b)", "\\bhashCode\\b", "\\btoString\\b", "static \\{"};
        for (String word : refused) {
            rule(!Pattern.compile(word).matcher(code).find(), "the source has " + word);
        }
        rule(source.chars().allMatch(sign -> sign == '\n' || sign >= 32 && sign < 127), "a sign that isn't plain");
        Matcher made = Pattern.compile("(?s)\\n    public int .*?\\n    \\}").matcher(code);
        int acts = 0;
        while (made.find()) {
            acts++;
            rule(!Pattern.compile("\\bnew\\b").matcher(made.group()).find(), "an act makes an object: " + made.group());
        }
        rule(acts == 41, acts + " acts were found in the source");
    }

    /** Rule 11: no method has more than seven parameters or some sixty lines. */
    private static void methods() throws Exception {
        List<Class<?>> all = new ArrayList<>(List.of(StiltParish.class.getDeclaredClasses()));
        all.add(StiltParish.class);
        for (Class<?> owner : all) {
            for (Method method : owner.getDeclaredMethods()) {
                rule(method.getParameterCount() <= 7, method + " has more than seven parameters");
            }
        }
        String source = Files.readString(Path.of("src/main/java/StiltParish.java"));
        Matcher body = Pattern.compile("(?m)^( {4}| {8})([a-zA-Z][^\\n;={]*\\)) \\{\\n(?s:.*?)\\n\\1\\}$").matcher(source);
        int found = 0;
        while (body.find()) {
            found++;
            rule(body.group().lines().count() <= 60, body.group(2) + " is longer than sixty lines");
        }
        rule(found >= 41, "only " + found + " methods were found in the source");
    }
}
