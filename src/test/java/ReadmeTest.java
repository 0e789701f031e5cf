import java.io.File;
import java.lang.reflect.Method;
import java.lang.reflect.Modifier;
import java.nio.file.Files;
import java.nio.file.Path;

/** What README.md says of the class holds, and it names each act and each test. */
public final class ReadmeTest extends Checks {
    public static void main(String[] args) throws Exception {
        String page = Files.readString(Path.of("README.md"));
        firstUse(page);
        names(page);
        end("README.md holds");
    }

    /** A line stands on the page, and its answer is what the page says behind it. */
    private static void shown(String page, String line, int answer) {
        String whole = line + " // " + answer + ":";
        is("README.md has " + whole, page.contains(whole) ? 1 : 0, 1);
    }

    private static void firstUse(String page) {
        StiltParish p = new StiltParish();
        shown(page, "int goer = p.one(4, 0);       ", p.one(4, 0));
        p.land(0, 3, 5);
        p.rises(0, 9);
        shown(page, "int known = p.days(1);        ", p.days(1));
        shown(page, "int tall = p.oneIs(goer, 3);  ", p.oneIs(0, 3));
        p.feed('t' | '+' << 8 | 'g' << 16, 3);
        shown(page, "int read = p.text(1);         ", p.text(1));
        shown(page, "int made = p.law(1, 6, 7, 0); ", p.law(1, 6, 7, 0));
    }

    private static void names(String page) {
        for (Method act : StiltParish.class.getDeclaredMethods()) {
            if (Modifier.isPublic(act.getModifiers())) {
                boolean named = page.contains("`" + act.getName() + "`") || page.contains("`" + act.getName() + "(");
                is("README.md names " + act.getName(), named ? 1 : 0, 1);
            }
        }
        String[] files = new File("src/test/java").list();
        for (String file : files == null ? new String[0] : files) {
            boolean named = !file.endsWith(".java") || page.contains("`src/test/java/" + file + "`");
            is("README.md names " + file, named ? 1 : 0, 1);
        }
    }
}
