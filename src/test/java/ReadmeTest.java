import java.io.IOException;
import java.lang.reflect.Method;
import java.nio.file.Files;
import java.nio.file.Path;
import java.util.regex.Matcher;
import java.util.regex.Pattern;

/** README.md says how to use the class: its land is told, and its calls are made, in its order, with the answers it has. */
public final class ReadmeTest {
    private static final Pattern LAND = Pattern.compile("```text\n(.*?)\n```", Pattern.DOTALL);
    private static final Pattern CALL = Pattern.compile("^x\\.(\\w+)\\(([-0-9, ]*)\\) *// (-?[0-9]+|true|false|NONE)\\b", Pattern.MULTILINE);
    private static final Pattern LINE = Pattern.compile("^\\| `([a-z]+ .*?)` \\|", Pattern.MULTILINE);

    public static void main(String[] args) throws IOException, ReflectiveOperationException {
        String page = Files.readString(Path.of("README.md"));
        Matcher land = LAND.matcher(page);
        Check.due("a land is told", land.find(), true);
        String text = land.group(1).replace('\n', ' ');
        eachLine(page, text);
        for (String told : new String[] {text, land.group(1).replace("\n", "")}) {
            YearSkins x = new YearSkins();
            Check.due("houses", Check.tell(x, told), 2);
            calls(x, page);
        }
        YearSkins broken = new YearSkins();
        Check.due("a line's end parts nothing", Check.tell(broken, land.group(1)), -1);
        Check.due("its fault", broken.fault(), 1);
        Check.due("its place", broken.where(), land.group(1).indexOf('\n'));
        Check.end();
    }

    /** The lines that the table shows are those of the land. */
    private static void eachLine(String page, String text) {
        Matcher line = LINE.matcher(page);
        int seen = 0;
        while (line.find()) {
            for (String one : line.group(1).split("`, `")) {
                Check.due("the land has [" + one + "]", (text + ";").contains(one + ";"), true);
                seen++;
            }
        }
        Check.due("lines of the table", seen, 11);
    }

    private static void calls(YearSkins x, String page) throws ReflectiveOperationException {
        Matcher call = CALL.matcher(page);
        int seen = 0;
        while (call.find()) {
            Check.same(call.group(), answer(x, call.group(1), call.group(2)), call.group(3).replace("NONE", "-1"));
            seen++;
        }
        Check.due("calls", seen, page.split("\nx\\.").length - 1);
    }

    private static String answer(YearSkins x, String name, String numbers) throws ReflectiveOperationException {
        for (Method method : YearSkins.class.getMethods()) {
            if (method.getName().equals(name)) {
                String[] parts = numbers.isEmpty() ? new String[0] : numbers.split(", *");
                Object[] given = new Object[parts.length];
                for (int i = 0; i < parts.length; i++) {
                    given[i] = Integer.valueOf(parts[i]);
                }
                return String.valueOf(method.invoke(x, given));
            }
        }
        return "no such call";
    }
}
