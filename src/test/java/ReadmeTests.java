import java.io.IOException;
import java.lang.reflect.Method;
import java.lang.reflect.Modifier;
import java.nio.file.Files;
import java.nio.file.Path;
import java.util.regex.Matcher;
import java.util.regex.Pattern;

/** What README.md (told as the first argument) says of the class is so: its first run, and the names of all calls. */
public final class ReadmeTests {
    private static final Pattern BAY = Pattern.compile("\"([^\"]+)\"\\.toCharArray\\(\\)");
    private static final Pattern CALL = Pattern.compile("(?m)^x\\.(\\w+\\([^)]*\\)); *// (-?\\d+)\\b");

    public static void main(String[] args) throws IOException {
        String text = Files.readString(Path.of(args.length > 0 ? args[0] : "README.md"));
        Matcher bay = BAY.matcher(text);
        StringBuilder script = new StringBuilder(bay.find() ? "L:" + bay.group(1) : "L:");
        Matcher call = CALL.matcher(text);
        int calls = 0;
        for (; call.find(); calls++) script.append(' ').append(call.group(1).replace(" ", "")).append('=').append(call.group(2));
        if (calls == 0) Script.fail("readme", "no call stands in it");
        Script.check("readme", script.toString());
        for (Method m : Embayed.class.getDeclaredMethods()) {
            if (Modifier.isPublic(m.getModifiers()) && !Pattern.compile("`" + m.getName() + "[(`]").matcher(text).find()) Script.fail("readme", "nothing of " + m.getName());
        }
        Script.end("readme");
    }
}
