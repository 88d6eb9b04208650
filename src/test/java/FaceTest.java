import java.lang.reflect.Constructor;
import java.lang.reflect.Field;
import java.lang.reflect.Method;
import java.lang.reflect.Modifier;
import java.util.ArrayList;
import java.util.Arrays;
import java.util.List;
import java.util.TreeSet;

/** The public face: nothing is missing from it and nothing else can be seen. */
public final class FaceTest {
    private static final String BAD = " throws IllegalArgumentException";
    private static final String MISSING = " NoSuchElementException";

    public static void main(String[] args) {
        Check check = new Check();
        Class<?> face = MicroMachine.class;
        check.due("public and final", face.getModifiers(), Modifier.PUBLIC | Modifier.FINAL);

        TreeSet<String> due = new TreeSet<>(List.of(
                "int type(long)" + BAD + " IllegalStateException",
                "int word(int)" + BAD,
                "void erase(int)" + BAD + MISSING,
                "void begin(int)" + BAD,
                "int run(int)" + BAD + MISSING + " IndexOutOfBoundsException",
                "void set(int,int)" + BAD,
                "int register(int)" + BAD,
                "void poke(int,int)" + BAD,
                "int memory(int)" + BAD,
                "void code(int,int)" + BAD,
                "int told(int,int)" + BAD + MISSING,
                "int count(int) throws"));
        TreeSet<String> there = new TreeSet<>();
        List<String> publicNames = new ArrayList<>();
        for (Method m : face.getDeclaredMethods()) {
            if (!Modifier.isPrivate(m.getModifiers())) {
                check.due(m.getName() + " is public alone", m.getModifiers(), Modifier.PUBLIC);
                there.add(told(m));
                publicNames.add(m.getName());
            }
        }
        check.due("methods " + there, there.equals(due) ? 1 : 0, 1);

        check.due("constructors", face.getDeclaredConstructors().length, 1);
        for (Constructor<?> c : face.getDeclaredConstructors()) {
            check.due("constructor's modifiers", c.getModifiers(), Modifier.PUBLIC);
            check.due("constructor's parameters", c.getParameterCount(), 0);
        }
        for (Field f : face.getDeclaredFields()) {
            check.due(f.getName() + " is private", Modifier.isPrivate(f.getModifiers()) ? 1 : 0, 1);
            boolean isShared = Modifier.isStatic(f.getModifiers());
            check.due(f.getName() + " is final if static", !isShared || Modifier.isFinal(f.getModifiers()) ? 1 : 0, 1);
        }
        for (Class<?> inside : face.getDeclaredClasses()) {
            int modifiers = inside.getModifiers();
            check.due(inside + " is static", Modifier.isStatic(modifiers) ? 1 : 0, 1);
            check.due(inside + " is hidden", modifiers & (Modifier.PUBLIC | Modifier.PROTECTED), 0);
            for (Method m : inside.getDeclaredMethods()) {
                check.due(m + " bears a public name", publicNames.contains(m.getName()) ? 1 : 0, 0);
            }
        }
        for (Method m : face.getDeclaredMethods()) {
            boolean isHidden = Modifier.isPrivate(m.getModifiers());
            check.due(m + " bears a public name", isHidden && publicNames.contains(m.getName()) ? 1 : 0, 0);
        }
        check.end();
    }

    private static String told(Method m) {
        StringBuilder told = new StringBuilder(m.getReturnType() + " " + m.getName() + "(");
        Arrays.stream(m.getParameterTypes()).forEach(t -> told.append(t).append(","));
        told.setLength(told.length() - 1);
        told.append(") throws");
        Arrays.stream(m.getExceptionTypes()).forEach(t -> told.append(" ").append(t.getSimpleName()));
        return told.toString();
    }
}
