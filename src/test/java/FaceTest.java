import java.lang.reflect.Constructor;
import java.lang.reflect.Field;
import java.lang.reflect.Method;
import java.lang.reflect.Modifier;
import java.util.TreeSet;

/** The face of the document, and rule 1 of LANGUAGE.md: nothing else can be seen from outside. */
public final class FaceTest {
    private static final String[] METHODS = {
        "boolean sign(int)", "boolean suffices(int, long)", "int at(int)", "int check()",
        "int fault(int, int)", "int gap(int)", "int part(int, int)", "int print()",
        "int reach(int)", "int read()", "long time(int, int)"
    };

    public static void main(String[] args) {
        Due due = new Due();
        due.that("NONE", MachineText.NONE, -1);
        due.that("UNKNOWN", MachineText.UNKNOWN, -11);
        due.that("OUTSIDE", MachineText.OUTSIDE, -12);
        due.that("STATE", MachineText.STATE, -13);
        Class<?> face = MachineText.class;
        due.that("public and final", face.getModifiers(), Modifier.PUBLIC | Modifier.FINAL);
        due.that("methods", visibleMethods(face), String.join("; ", new TreeSet<>(java.util.List.of(METHODS))));
        due.that("fields", visibleFields(face), "NONE OUTSIDE STATE UNKNOWN");
        due.that("constructors", face.getDeclaredConstructors().length, 1);
        for (Constructor<?> made : face.getDeclaredConstructors()) {
            due.that("constructor's modifiers", made.getModifiers(), Modifier.PUBLIC);
            due.that("constructor's parameters", made.getParameterCount(), 0);
        }
        noNameTwice(due, face);
        due.end();
    }

    private static String visibleMethods(Class<?> face) {
        TreeSet<String> seen = new TreeSet<>();
        for (Method method : face.getDeclaredMethods()) {
            if (!Modifier.isPrivate(method.getModifiers())) {
                StringBuilder line = new StringBuilder();
                line.append(method.getReturnType()).append(' ').append(method.getName()).append('(');
                String between = "";
                for (Class<?> type : method.getParameterTypes()) {
                    line.append(between).append(type);
                    between = ", ";
                }
                seen.add(line.append(')').toString());
            }
        }
        return String.join("; ", seen);
    }

    private static String visibleFields(Class<?> face) {
        TreeSet<String> seen = new TreeSet<>();
        for (Field field : face.getDeclaredFields()) {
            if (!Modifier.isPrivate(field.getModifiers())) {
                seen.add(field.getName());
            }
        }
        return String.join(" ", seen);
    }

    private static void noNameTwice(Due due, Class<?> face) {
        for (Method method : face.getDeclaredMethods()) {
            boolean taken = false;
            for (String line : METHODS) {
                taken |= line.contains(" " + method.getName() + "(");
            }
            boolean isPrivate = Modifier.isPrivate(method.getModifiers());
            due.that("private method with a public name " + method.getName(), isPrivate && taken, false);
        }
    }
}
