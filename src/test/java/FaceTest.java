import java.io.IOException;
import java.lang.reflect.Constructor;
import java.lang.reflect.Field;
import java.lang.reflect.Method;
import java.lang.reflect.Modifier;
import java.nio.file.Files;
import java.nio.file.Path;
import java.util.Arrays;
import java.util.Set;
import java.util.TreeSet;
import java.util.regex.Matcher;
import java.util.regex.Pattern;
import java.util.stream.Collectors;

/** The class has the document's face and no other, and keeps to what a scan sees of the rules. */
public final class FaceTest {
    private static final Check check = new Check();

    private static final Set<String> FACE = new TreeSet<>(Arrays.asList(
            "int office()", "int never(int,int)", "int one(int,int)", "int type(int)",
            "int clear()", "int read()", "int mark(int,int,int,int)", "int known(int,int)",
            "int undo()", "int of(int,int)", "int worlds()", "int may(int)",
            "int chance(int,int)", "int must()", "int ruled(int)", "int gives(int,int,int,int)",
            "int next(int)", "int sure(int,int,int)", "int wrong()", "int is(int)",
            "int tells()", "int bets(int,int)", "int journeys(int)", "int years(int,int)",
            "long part(int)", "int image(int)", "int from(int)", "int status(int)",
            "int count(int)", "long digest()"));

    public static void main(String[] args) throws IOException {
        constants();
        members();
        nestedClasses();
        if (args.length > 0) {
            words(withoutComments(Files.readString(Path.of(args[0]))));
        }
        check.end();
    }

    private static void constants() {
        check.same("NONE", ProphetAudit.NONE, -1);
        check.same("BAD", ProphetAudit.BAD, -2);
        check.same("NO", ProphetAudit.NO, -3);
        check.same("FULL", ProphetAudit.FULL, -4);
    }

    private static void members() {
        check.holds("the class is final", Modifier.isFinal(ProphetAudit.class.getModifiers()));
        Set<String> seen = new TreeSet<>();
        for (Method m : ProphetAudit.class.getDeclaredMethods()) {
            if (Modifier.isPrivate(m.getModifiers())) {
                check.holds("no private method has a public one's name: " + m.getName(),
                        FACE.stream().noneMatch(f -> f.contains(" " + m.getName() + "(")));
            } else {
                check.holds("public: " + m, Modifier.isPublic(m.getModifiers())
                        && !Modifier.isStatic(m.getModifiers()));
                seen.add(signature(m));
            }
            check.holds("at most seven parameters: " + m, m.getParameterCount() <= 7);
        }
        check.holds("the methods are " + seen, seen.equals(FACE));
        Set<String> open = new TreeSet<>();
        for (Field f : ProphetAudit.class.getDeclaredFields()) {
            if (!Modifier.isPrivate(f.getModifiers())) {
                open.add(f.getName());
            }
            check.holds("static fields are final: " + f,
                    !Modifier.isStatic(f.getModifiers()) || Modifier.isFinal(f.getModifiers()));
        }
        check.holds("the constants are " + open,
                open.equals(new TreeSet<>(Arrays.asList("NONE", "BAD", "NO", "FULL"))));
        Constructor<?>[] made = ProphetAudit.class.getDeclaredConstructors();
        check.same("constructors", made.length, 1);
        check.holds("public constructor", Modifier.isPublic(made[0].getModifiers()));
        check.same("its parameters", made[0].getParameterCount(), 0);
    }

    private static String signature(Method m) {
        return m.getReturnType().getName() + " " + m.getName() + "("
                + Arrays.stream(m.getParameterTypes()).map(Class::getName)
                        .collect(Collectors.joining(",")) + ")";
    }

    private static void nestedClasses() {
        Class<?>[] inside = ProphetAudit.class.getDeclaredClasses();
        check.holds("at most eleven classes inside", inside.length <= 11);
        for (Class<?> c : inside) {
            check.holds("static: " + c, Modifier.isStatic(c.getModifiers()));
            check.holds("not public: " + c, !Modifier.isPublic(c.getModifiers())
                    && !Modifier.isProtected(c.getModifiers()));
            for (Method m : c.getDeclaredMethods()) {
                check.holds("a public method's name: " + m,
                        FACE.stream().noneMatch(f -> f.contains(" " + m.getName() + "(")));
            }
            long fields = Arrays.stream(c.getDeclaredFields())
                    .filter(f -> !Modifier.isStatic(f.getModifiers())).count();
            check.holds("some twenty fields: " + c, fields <= 20);
        }
    }

    /** Words and signs that LANGUAGE.md rules out wherever they stand. */
    private static void words(String source) {
        String[] out = {"\\bthrow\\b", "\\bthrows\\b", "\\btry\\b", "\\bcatch\\b",
            "\\bsynchronized\\b", "\\bassert\\b", "\\bimport\\b", "\\bpackage\\b", "->", "::",
            "Exact\\b", "\\bObject\\b", "\\bprotected\\b", "\\bstatic\\s*\\{", "@"};
        for (String word : out) {
            Matcher found = Pattern.compile(word).matcher(source);
            check.holds("no " + word, !found.find());
        }
        check.holds("signs below 128", source.chars().allMatch(c -> c < 128));
        check.same("one public class",
                Pattern.compile("\\bpublic\\s+final\\s+class\\b").matcher(source).results().count(),
                1);
    }

    private static String withoutComments(String source) {
        return source.replaceAll("(?s)/\\*.*?\\*/", " ").replaceAll("//[^\n]*", " ");
    }
}
