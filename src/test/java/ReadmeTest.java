import java.lang.reflect.Method;
import java.lang.reflect.Modifier;
import java.nio.file.Files;
import java.nio.file.Path;
import java.util.regex.Matcher;
import java.util.regex.Pattern;

/** README.md keeps true: its runs of calls answer as their comments say, and it names every call of the class. */
public final class ReadmeTest extends Checks {
    private static final Pattern RUN = Pattern.compile("```java\n(.*?)```", Pattern.DOTALL);
    private static final Pattern MADE = Pattern.compile("TurningShop shop = new TurningShop\\(\\);.*");
    private static final Pattern TYPED = Pattern.compile(
        "for \\(char c : \"([^\"]*)\"\\.toCharArray\\(\\)\\) shop\\.type\\(c\\);");
    private static final Pattern CALL = Pattern.compile("shop\\.(\\w+)\\(([-\\d, ]*)\\); +// (-?\\d+|[A-Z_]+)(:.*)?");
    private static final int FEWEST_CALLS = 25;

    public static void main(String[] args) throws Exception {
        String page = Files.readString(Path.of("README.md"));
        int calls = 0;
        Matcher run = RUN.matcher(page);
        while (run.find()) {
            calls += follow(run.group(1));
        }
        holds("the page has " + calls + " calls with answers", calls >= FEWEST_CALLS);
        for (Method m : TurningShop.class.getDeclaredMethods()) {
            if (Modifier.isPublic(m.getModifiers())) {
                holds("the page tells of " + m.getName(), page.contains("`" + m.getName() + "("));
            }
        }
        finish();
    }

    /** Does the calls of a run, which begins with its object; how many had an answer on the page. */
    private static int follow(String lines) throws Exception {
        TurningShop shop = null;
        int calls = 0;
        for (String line : lines.split("\n")) {
            Matcher typed = TYPED.matcher(line);
            Matcher call = CALL.matcher(line);
            if (MADE.matcher(line).matches()) {
                shop = new TurningShop();
            } else if (shop != null && typed.matches()) {
                for (char c : typed.group(1).toCharArray()) {
                    holds("type of " + c, shop.type(c) > 0);
                }
            } else if (shop != null && call.matches()) {
                due(line, answer(shop, call.group(1), call.group(2)), number(call.group(3)));
                calls++;
            } else {
                holds("a line of the page can be followed: " + line, false);
            }
        }
        return calls;
    }

    private static int answer(TurningShop shop, String name, String arguments) throws Exception {
        String[] texts = arguments.isEmpty() ? new String[0] : arguments.split(", *");
        Class<?>[] types = new Class<?>[texts.length];
        Object[] values = new Object[texts.length];
        for (int i = 0; i < texts.length; i++) {
            types[i] = int.class;
            values[i] = Integer.valueOf(texts[i]);
        }
        return (Integer) TurningShop.class.getMethod(name, types).invoke(shop, values);
    }

    private static int number(String told) throws Exception {
        return Character.isLetter(told.charAt(0)) ? TurningShop.class.getField(told).getInt(null) : Integer.parseInt(told);
    }
}
