import java.lang.reflect.Method;
import java.nio.file.Files;
import java.nio.file.Path;
import java.util.Arrays;
import java.util.regex.Matcher;
import java.util.regex.Pattern;

/** The example of README.md answers as README.md says, and each call of the face stands there. */
final class ReadmeTest {
    private static final Pattern PUT = Pattern.compile("put\\(x, \"([^\"]*)\"\\);");
    private static final Pattern CALL = Pattern.compile("x\\.(\\w+)\\(([-0-9, ]*)\\); *// (-?[0-9]+)\\b.*");

    public static void main(String[] args) throws Exception {
        String text = Files.readString(Path.of("README.md"));
        String example = text.substring(text.indexOf("FuneralUmbrellas x = new FuneralUmbrellas();\n"));
        FuneralUmbrellas x = new FuneralUmbrellas();
        int calls = 0;
        for (String line : example.substring(0, example.indexOf("```")).split("\n")) {
            Matcher put = PUT.matcher(line);
            Matcher call = CALL.matcher(line);
            if (put.matches()) {
                put(x, put.group(1));
            } else if (call.matches()) {
                Check.due(line, answer(x, call.group(1), call.group(2)), Integer.parseInt(call.group(3)));
                calls++;
            } else {
                Check.due(line + " is understood", line.startsWith("FuneralUmbrellas x"), true);
            }
        }
        Check.due("calls of the example", calls >= 10, true);
        for (Method m : FuneralUmbrellas.class.getMethods()) {
            boolean isOurs = m.getDeclaringClass() == FuneralUmbrellas.class;
            Check.due(m.getName() + " is told", !isOurs || text.contains("`" + m.getName()), true);
        }
        Check.finish("ReadmeTest");
    }

    /** As README.md has it. */
    private static void put(FuneralUmbrellas x, String text) {
        x.end(0);
        for (int i = 0; i < text.length(); i += 20) {
            int[] n = new int[5];
            for (int k = 0; k < 20 && i + k < text.length(); k++) {
                n[k / 4] |= text.charAt(i + k) << (24 - 8 * (k % 4));
            }
            x.feed(n[0], n[1], n[2], n[3], n[4]);
        }
        x.end(text.length());
    }

    private static int answer(FuneralUmbrellas x, String name, String numbers) throws Exception {
        String[] parts = numbers.isBlank() ? new String[0] : numbers.split(", *");
        Class<?>[] types = new Class<?>[parts.length];
        Arrays.fill(types, int.class);
        Object[] values = Arrays.stream(parts).map(Integer::valueOf).toArray();
        return (Integer) FuneralUmbrellas.class.getMethod(name, types).invoke(x, values);
    }
}
