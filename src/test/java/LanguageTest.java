import java.io.IOException;
import java.lang.reflect.Executable;
import java.lang.reflect.Field;
import java.lang.reflect.Method;
import java.lang.reflect.Modifier;
import java.nio.file.Files;
import java.nio.file.Path;
import java.util.ArrayList;
import java.util.Collections;
import java.util.List;
import java.util.regex.Matcher;
import java.util.regex.Pattern;

/** The rules of LANGUAGE.md that can be seen in the source or in the compiled classes. */
public final class LanguageTest {
    private static final Path SOURCE = Path.of("src/main/java/MachineText.java");
    /** Rules 2, 4, 6 and 13; the class throws nothing, so it needs no exception at all. */
    private static final String[] NEVER = {"->", "::", "@", "\\bimport\\b", "\\bpackage\\b", "\\bsynchronized\\b",
        "\\bassert\\b", "\\bthrows?\\b", "\\btry\\b", "\\bcatch\\b", "\\bfinally\\b", "\\bSystem\\b", "\\bThread\\b",
        "\\bRandom\\b", "\\bObject\\b", "\\bequals\\b", "\\bhashCode\\b", "\\btoString\\b", "Exact\\b", "\\bdouble\\b",
        "\\bfloat\\b", "\\bjava\\.", "\\bprotected\\b", "\\bvolatile\\b", "\\bnative\\b"};
    private static final Pattern METHOD_HEAD = Pattern.compile("^( +)(?!.*\\bclass\\b).*\\) \\{$");

    private final Due due = new Due();

    public static void main(String[] args) throws IOException {
        LanguageTest test = new LanguageTest();
        String source = Files.readString(SOURCE);
        String code = source.replaceAll("(?s)/\\*.*?\\*/", "").replaceAll("//.*", "");
        test.nothingThatIsLeftOut(code);
        test.charactersUpTo255(source);
        test.classes();
        test.methodsStayShort(source.lines().toList());
        test.everyLoopCounts(code);
        test.due.end();
    }

    private void nothingThatIsLeftOut(String code) {
        for (String word : NEVER) {
            due.that(word + " in the source", Pattern.compile(word).matcher(code).find(), false);
        }
        // Rule 5: no static initialiser block.
        due.that("static block", Pattern.compile("\\bstatic\\s*\\{").matcher(code).find(), false);
    }

    private void charactersUpTo255(String source) {
        due.that("characters above 255", source.chars().filter(c -> c > 255).count(), 0);
    }

    /** Rules 1, 2, 5 and 11. */
    private void classes() {
        List<Class<?>> all = new ArrayList<>(List.of(MachineText.class.getDeclaredClasses()));
        for (Class<?> inside : all) {
            due.that(inside + " is static", Modifier.isStatic(inside.getModifiers()), true);
            due.that(inside + " is public", Modifier.isPublic(inside.getModifiers()), false);
        }
        all.add(MachineText.class);
        due.that("at most twelve classes", all.size() <= 12, true);
        for (Class<?> one : all) {
            fields(one);
            List<Executable> methods = new ArrayList<>(List.of(one.getDeclaredMethods()));
            Collections.addAll(methods, one.getDeclaredConstructors());
            for (Executable method : methods) {
                due.that(method + " takes at most seven", method.getParameterCount() <= 7, true);
            }
        }
        noPublicNameInside(all);
    }

    private void fields(Class<?> one) {
        int own = 0;
        for (Field field : one.getDeclaredFields()) {
            boolean isStatic = Modifier.isStatic(field.getModifiers());
            own += isStatic ? 0 : 1;
            due.that(field + " is static, not final", isStatic && !Modifier.isFinal(field.getModifiers()), false);
        }
        due.that(one + " has at most twenty fields", own <= 20, true);
    }

    /** Rule 1: "No private method bears the name of a public one", nor does one of a class inside. */
    private void noPublicNameInside(List<Class<?>> all) {
        List<String> face = new ArrayList<>();
        for (Method method : MachineText.class.getDeclaredMethods()) {
            if (Modifier.isPublic(method.getModifiers())) {
                face.add(method.getName());
            }
        }
        for (Class<?> one : all) {
            for (Method method : one.getDeclaredMethods()) {
                due.that(method + " bears a public name",
                    !Modifier.isPublic(method.getModifiers()) && face.contains(method.getName()), false);
            }
        }
    }

    /** Rule 11: some sixty lines; the end of a method stands as far in as its head. */
    private void methodsStayShort(List<String> lines) {
        for (int start = 0; start < lines.size(); start++) {
            Matcher head = METHOD_HEAD.matcher(lines.get(start));
            if (head.matches()) {
                int end = start;
                while (end < lines.size() && !lines.get(end).startsWith(head.group(1) + "}")) {
                    end++;
                }
                due.that("at most sixty lines from line " + (start + 1), end - start < 60, true);
            }
        }
    }

    /** Rule 9, more strictly than it says: each loop is a for with a bound and a step. */
    private void everyLoopCounts(String code) {
        due.that("while or do", Pattern.compile("\\b(while|do)\\b").matcher(code).find(), false);
        Matcher loops = Pattern.compile("\\bfor \\((.*)\\) \\{").matcher(code);
        int seen = 0;
        while (loops.find()) {
            seen++;
            due.that("a counter, a bound and a step: " + loops.group(1),
                loops.group(1).matches("int (\\w+) = [^;]+; \\1 [<>]=? [^;]+; \\1(\\+\\+| /= 10)"), true);
        }
        due.that("loops in this form", seen, Pattern.compile("\\bfor\\b").matcher(code).results().count());
    }
}
