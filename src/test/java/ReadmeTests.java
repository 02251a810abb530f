import java.lang.reflect.Method;
import java.lang.reflect.Modifier;
import java.nio.charset.StandardCharsets;
import java.nio.file.Files;
import java.nio.file.Path;
import java.util.regex.Matcher;
import java.util.regex.Pattern;

/** Holds README.md to the class: its example's answers, its slates and costs, and that it names every call. */
public final class ReadmeTests {
    private static final Pattern CALL = Pattern.compile("s\\.(\\w+)\\(([^)]*)\\);(?: +// (-?\\d+|true|false)(?:$|:.*))?");
    private static final Pattern TYPED = Pattern.compile("type\\(s, \"(.*)\"\\);");
    private static final Pattern SLATE_ROW = Pattern.compile("\\| `([tdsm][^`]*;[^`]*)` \\|.*");
    private static int wrong = 0;
    private static int calls = 0;

    private static void due(String what, Object got, Object want) {
        if (!got.toString().equals(want.toString())) {
            wrong++;
            System.out.println(what + " answered " + got + ", README.md says " + want);
        }
    }

    private static void type(SlateSum s, String text) {
        for (int i = 0; i < text.length(); i += 20) {
            int[] n = new int[5];
            for (int j = 0; j < 20; j++) {
                n[j / 4] = n[j / 4] << 8 | (i + j < text.length() ? text.charAt(i + j) : 0);
            }
            s.feed(n[0], n[1], n[2], n[3], n[4]);
        }
    }

    private static Method methodOf(String name) {
        for (Method m : SlateSum.class.getDeclaredMethods()) {
            if (Modifier.isPublic(m.getModifiers()) && m.getName().equals(name)) return m;
        }
        throw new IllegalStateException("README.md calls " + name);
    }

    private static Object argument(String told, Class<?> type) {
        int number = told.equals("SlateSum.NONE") ? SlateSum.NONE : Integer.decode(told);
        if (type == long.class) return (long) number;
        return number;
    }

    private static void call(SlateSum s, String line) throws Exception {
        Matcher m = CALL.matcher(line);
        if (!m.matches() || m.group(3) == null) {
            due("\"" + line + "\"", "no answer", "what it answers");
            return;
        }
        Method method = methodOf(m.group(1));
        String[] told = m.group(2).isEmpty() ? new String[0] : m.group(2).split(", ");
        Object[] arguments = new Object[told.length];
        for (int i = 0; i < told.length; i++) arguments[i] = argument(told[i], method.getParameterTypes()[i]);
        due(line, method.invoke(s, arguments), m.group(3));
        calls++;
    }

    private static void example(String readme) throws Exception {
        SlateSum s = null;
        int from = readme.indexOf("SlateSum s = new SlateSum();");
        for (String line : readme.substring(from, readme.indexOf("```", from)).split("\n")) {
            Matcher typed = TYPED.matcher(line);
            if (line.equals("SlateSum s = new SlateSum();")) s = new SlateSum();
            else if (typed.matches()) type(s, typed.group(1));
            else if (!line.isEmpty()) call(s, line);
        }
        due("calls of the example, 30 at least,", calls >= 30, true);
    }

    /** The slates shown are such texts; those without lost ones and letters are right. */
    private static void texts(String readme) {
        int slates = 0;
        for (String line : readme.split("\n")) {
            Matcher m = SLATE_ROW.matcher(line);
            if (!m.matches()) continue;
            SlateSum s = new SlateSum();
            type(s, m.group(1));
            due("fault of " + m.group(1), s.fault(0), SlateSum.NONE);
            s.text(0);
            due("wrong of " + m.group(1), s.wrong(), s.count(5) + s.count(6) > 0 ? SlateSum.HIDDEN : SlateSum.NONE);
            due("a sum of " + m.group(1), s.answers(SlateSum.NONE) > 0, true);
            slates++;
        }
        due("slates shown, of every kind,", slates >= 4, true);
        Matcher cost = Pattern.compile("`(y:[^`]*)`").matcher(readme);
        while (cost.find()) {
            if (cost.group(1).contains("SUM")) continue;
            SlateSum s = new SlateSum();
            type(s, cost.group(1));
            due("fault of " + cost.group(1), s.fault(1), SlateSum.NONE);
        }
    }

    private static void names(String readme) {
        String table = readme.substring(readme.indexOf("### All calls"), readme.indexOf("## Tests"));
        for (Method m : SlateSum.class.getDeclaredMethods()) {
            boolean named = table.contains("`" + m.getName() + "(");
            if (Modifier.isPublic(m.getModifiers())) due("is " + m.getName() + " named? It", named, true);
        }
    }

    public static void main(String[] args) throws Exception {
        String readme = Files.readString(Path.of("README.md"), StandardCharsets.UTF_8);
        example(readme);
        texts(readme);
        names(readme);
        System.out.println(wrong == 0 ? "README.md holds" : wrong + " times README.md does not hold");
        if (wrong != 0) System.exit(1);
    }
}
