import java.io.IOException;
import java.nio.file.Files;
import java.nio.file.Path;
import java.util.ArrayList;
import java.util.List;
import java.util.regex.Matcher;
import java.util.regex.Pattern;

/** The example in README.md: each of its calls answers the number that stands behind it, and each call has its row. */
public final class ReadmeTest {
    private static final Pattern LINE = Pattern.compile("(x\\.\\w+\\(.*?\\)); +// (-?[0-9]+): .*");

    public static void main(String[] args) throws IOException {
        List<String> lines = Files.readAllLines(Path.of("README.md"));
        exampleIsTrue(lines);
        eachCallHasARow(lines);
        Checks.finish();
    }

    private static void exampleIsTrue(List<String> lines) {
        List<String> calls = new ArrayList<>();
        List<Long> told = new ArrayList<>();
        for (String line : lines) {
            Matcher call = LINE.matcher(line);
            if (call.matches()) {
                calls.add(call.group(1));
                told.add(Long.parseLong(call.group(2)));
            }
        }
        BillForge x = new BillForge();
        String[] written = {
            "x.text(0x666565203331303bL)", "x.text(0x726573742032L)", "x.tariff(0)", "x.subscribe(0, 0)",
            "x.event(7, 0, 0, 50)", "x.tick(31)", "x.run()", "x.invoice(0, 2)", "x.pay(0, 500)", "x.books(2)"
        };
        long[] answers = {
            x.text(0x666565203331303bL), x.text(0x726573742032L), x.tariff(0), x.subscribe(0, 0),
            x.event(7, 0, 0, 50), x.tick(31), x.run(), x.invoice(0, 2), x.pay(0, 500), x.books(2)
        };
        Checks.due("the calls of the example are " + calls, calls.equals(List.of(written)), true);
        for (int i = 0; i < Math.min(answers.length, told.size()); i++) {
            Checks.due("README.md: " + calls.get(i), answers[i], told.get(i));
        }
    }

    private static void eachCallHasARow(List<String> lines) {
        for (var method : BillForge.class.getDeclaredMethods()) {
            if (java.lang.reflect.Modifier.isPublic(method.getModifiers())) {
                String row = "| `" + method.getName() + "(";
                Checks.due("README.md has a row of " + method.getName(), lines.stream().anyMatch(l -> l.startsWith(row)), true);
            }
        }
    }
}
