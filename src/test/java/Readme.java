import java.io.IOException;
import java.lang.reflect.Method;
import java.nio.file.Files;
import java.nio.file.Path;
import java.util.regex.Matcher;
import java.util.regex.Pattern;

/** The calls that README.md shows, one behind the other on one object, answer what it says. */
public final class Readme extends Due {
    private static final Pattern CALL = Pattern.compile("v\\.(\\w+)\\((.*)\\); +// (-?\\w+)(:.*)?");

    public static void main(String[] args) throws IOException, ReflectiveOperationException {
        StorkVote v = new StorkVote();
        int calls = 0;
        for (String line : Files.readAllLines(Path.of("README.md"))) {
            if (line.startsWith("v.")) {
                Matcher m = CALL.matcher(line);
                calls++;
                due("a call, and what it answers: " + line, m.matches() ? 1 : 0, 1);
                if (m.matches()) {
                    due(line, answer(v, m.group(1), m.group(2)), number(m.group(3)));
                }
            }
        }
        due("calls that were found", calls > 30 ? 1 : 0, 1);
        end("Readme");
    }

    private static int answer(StorkVote v, String name, String given) throws ReflectiveOperationException {
        String[] words = given.isEmpty() ? new String[0] : given.split(", ");
        Object[] numbers = new Object[words.length];
        Class<?>[] types = new Class<?>[words.length];
        for (int i = 0; i < words.length; i++) {
            numbers[i] = number(words[i]);
            types[i] = int.class;
        }
        Method call = StorkVote.class.getMethod(name, types);
        return (int) call.invoke(v, numbers);
    }

    private static int number(String word) throws ReflectiveOperationException {
        String bare = word.replace("StorkVote.", "");
        return Character.isUpperCase(bare.charAt(0)) ? StorkVote.class.getField(bare).getInt(null) : Integer.decode(bare);
    }
}
