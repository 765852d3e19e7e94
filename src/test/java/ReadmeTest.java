import java.lang.reflect.Method;
import java.lang.reflect.Modifier;
import java.nio.file.Files;
import java.nio.file.Path;
import java.util.regex.Matcher;
import java.util.regex.Pattern;

/** README.md: each line of its examples answers what stands behind it, and no call is missing there. */
public final class ReadmeTest {
    private static final Due DUE = new Due("ReadmeTest");
    private static final Pattern BLOCK = Pattern.compile("(?s)```java\n(.*?)```");
    private static final Pattern MAKING = Pattern.compile("PlaneCuts cuts = new PlaneCuts\\(\\);.*");
    private static final Pattern TYPING = Pattern.compile("for \\(char c : \"(.*)\"\\.toCharArray\\(\\)\\) cuts\\.type\\(c\\);");
    private static final Pattern CALL = Pattern.compile("cuts\\.(\\w+)\\((.*?)\\)(?: - (\\d+))?; *// (-?\\d+).*");

    public static void main(String[] args) throws Exception {
        String page = Files.readString(Path.of("README.md"));
        int examples = 0;
        Matcher blocks = BLOCK.matcher(page);
        while (blocks.find()) {
            example(blocks.group(1));
            examples++;
        }
        DUE.is("examples", examples, 2);
        for (Method method : PlaneCuts.class.getDeclaredMethods()) {
            if (Modifier.isPublic(method.getModifiers())) {
                DUE.holds("the table has " + method.getName(), page.contains("`" + method.getName() + "("));
            }
        }
        DUE.end();
    }

    private static void example(String lines) throws Exception {
        PlaneCuts cuts = null;
        for (String line : lines.split("\n")) {
            Matcher typing = TYPING.matcher(line);
            Matcher call = CALL.matcher(line);
            if (MAKING.matcher(line).matches()) {
                cuts = new PlaneCuts();
            } else if (typing.matches()) {
                Bench.types(cuts, typing.group(1));
            } else if (call.matches()) {
                long less = call.group(3) == null ? 0 : Long.parseLong(call.group(3));
                DUE.is(line, answer(cuts, call.group(1), call.group(2)) - less, Long.parseLong(call.group(4)));
            } else {
                DUE.holds("a line that can be followed: " + line, false);
            }
        }
    }

    private static long answer(PlaneCuts cuts, String name, String list) throws Exception {
        String[] words = list.isEmpty() ? new String[0] : list.split(", ");
        Class<?>[] types = new Class<?>[words.length];
        Object[] values = new Object[words.length];
        for (int k = 0; k < words.length; k++) {
            types[k] = int.class;
            values[k] = words[k].equals("PlaneCuts.NONE") ? PlaneCuts.NONE : Integer.parseInt(words[k]);
        }
        return ((Number) PlaneCuts.class.getMethod(name, types).invoke(cuts, values)).longValue();
    }
}
