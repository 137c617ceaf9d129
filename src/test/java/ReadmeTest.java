import java.io.IOException;
import java.lang.reflect.Method;
import java.nio.file.Files;
import java.nio.file.Path;
import java.util.Arrays;
import java.util.regex.Matcher;
import java.util.regex.Pattern;

/** README.md holds: each call under 'Use' answers what stands behind it, every call has a row. */
public final class ReadmeTest {
    private static final Check check = new Check();
    private static final Pattern CALL =
            Pattern.compile("(?m)^audit\\.(\\w+)\\((.*?)\\);\\s+// (-?\\d+): .*$");

    public static void main(String[] args) throws ReflectiveOperationException, IOException {
        Path program = Path.of(args.length > 0 ? args[0] : "src/main/java/ProphetAudit.java");
        Path root = program.toAbsolutePath().normalize().getParent().getParent().getParent().getParent();
        String page = Files.readString(root.resolve("README.md"));
        ProphetAudit audit = use(block(page, "java"));
        sameByText(audit, block(page, "text").strip());
        rows(page);
        tests(page, root);
        check.end();
    }

    /** What stands in the page's block of this kind. */
    private static String block(String page, String kind) {
        Matcher found = Pattern.compile("(?s)```" + kind + "\n(.*?)```").matcher(page);
        check.holds("a block of " + kind, found.find());
        return found.group(1);
    }

    private static ProphetAudit use(String block) throws ReflectiveOperationException {
        ProphetAudit audit = new ProphetAudit();
        Matcher call = CALL.matcher(block);
        int calls = 0;
        while (call.find()) {
            Integer[] numbers = Arrays.stream(call.group(2).split(",\\s*"))
                    .filter(n -> !n.isEmpty()).map(Integer::valueOf).toArray(Integer[]::new);
            Class<?>[] types = new Class<?>[numbers.length];
            Arrays.fill(types, int.class);
            Method method = ProphetAudit.class.getMethod(call.group(1), types);
            Number answer = (Number) method.invoke(audit, (Object[]) numbers);
            check.same(call.group(), answer.longValue(), Long.parseLong(call.group(3)));
            calls++;
        }
        check.same("all lines but the first are calls", calls, block.lines().count() - 1);
        return audit;
    }

    private static void sameByText(ProphetAudit audit, String text) {
        ProphetAudit told = Check.told(text);
        for (int what = 0; what < 4; what++) {
            check.same("by the text: count " + what, told.count(what), audit.count(what));
        }
        for (int i = 0; i < audit.count(0); i++) {
            check.same("by the text: kind of " + i, told.of(i, 0), audit.of(i, 0));
            check.same("by the text: trips of " + i, told.of(i, 1), audit.of(i, 1));
        }
        check.same("by the text: worlds", told.worlds(), audit.worlds());
    }

    private static void rows(String page) {
        for (Method method : ProphetAudit.class.getDeclaredMethods()) {
            if (java.lang.reflect.Modifier.isPublic(method.getModifiers())) {
                Matcher row = Pattern.compile("(?m)^\\| `" + method.getName() + "\\((.*?)\\)` \\|")
                        .matcher(page);
                check.holds("a row for " + method.getName(), row.find());
                long numbers = Arrays.stream(row.group(1).split(", ")).filter(n -> !n.isEmpty()).count();
                check.same("numbers of " + method.getName(), numbers, method.getParameterCount());
            }
        }
    }

    private static void tests(String page, Path root) throws IOException {
        try (var files = Files.list(root.resolve("src/test/java"))) {
            files.map(file -> file.getFileName().toString().replace(".java", ""))
                    .filter(name -> name.endsWith("Test"))
                    .forEach(name -> check.holds("a row for " + name, page.contains("`" + name + "`")));
        }
    }
}
