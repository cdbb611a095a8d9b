import java.lang.reflect.Constructor;
import java.lang.reflect.Field;
import java.lang.reflect.Method;
import java.lang.reflect.Modifier;
import java.util.Arrays;
import java.util.Set;
import java.util.TreeSet;

/** The public face, and rule 1 and 5 of LANGUAGE.md as far as reflection sees them. */
public final class FaceTest {
    private static final String[] FACE = {
        "int fold(int)", "int add(int,int,long)", "int addReal(int,int,long)", "int remove(int,int,long)",
        "int removeReal(int,int,long)", "int merge(int,int)", "boolean same(int,int)", "int rows(int)",
        "int limb(int,int) throws ArrayIndexOutOfBoundsException", "long real(int)",
        "long mean(int,int) throws ArithmeticException", "long spread(int,int) throws ArithmeticException",
        "long least(int,int)", "int rank(int,long)", "int unlike(int)", "long item(int,int)", "int start(int)",
        "int step(int,int,int)", "int join(int,int,int)", "int state(int)", "int check(int)", "int joined(int,int)",
    };

    public static void main(String[] args) {
        Due due = new Due();
        int modifiers = ExactFolds.class.getModifiers();
        due.answer("the class is public and final", Modifier.isPublic(modifiers) && Modifier.isFinal(modifiers), true);
        due.answer("NOTHING", ExactFolds.NOTHING, Long.MIN_VALUE);
        methods(due);
        fields(due, ExactFolds.class);
        for (Class<?> inside : ExactFolds.class.getDeclaredClasses()) {
            due.answer(inside + " is static", Modifier.isStatic(inside.getModifiers()), true);
            due.answer(inside + " is public", Modifier.isPublic(inside.getModifiers()), false);
            fields(due, inside);
        }
        Constructor<?>[] made = ExactFolds.class.getDeclaredConstructors();
        due.answer("constructors", made.length, 1);
        due.answer("constructor is public", Modifier.isPublic(made[0].getModifiers()), true);
        due.answer("constructor's parameters", made[0].getParameterCount(), 0);
        due.end();
    }

    private static void methods(Due due) {
        Set<String> want = new TreeSet<>(Arrays.asList(FACE));
        Set<String> got = new TreeSet<>();
        Set<String> openNames = new TreeSet<>();
        for (Method m : ExactFolds.class.getDeclaredMethods()) {
            if (!Modifier.isPrivate(m.getModifiers())) {
                got.add(told(m));
                openNames.add(m.getName());
            }
        }
        for (Method m : ExactFolds.class.getDeclaredMethods()) {
            if (Modifier.isPrivate(m.getModifiers())) {
                due.answer("private " + m.getName() + " bears a public name", openNames.contains(m.getName()), false);
            }
        }
        for (Class<?> inside : ExactFolds.class.getDeclaredClasses()) {
            for (Method m : inside.getDeclaredMethods()) {
                due.answer(inside + " " + m.getName() + " bears a public name", openNames.contains(m.getName()), false);
            }
        }
        due.answer("face " + got + " against " + want, got.equals(want), true);
    }

    private static String told(Method m) {
        StringBuilder text = new StringBuilder(m.getReturnType() + " " + m.getName() + "(");
        for (int i = 0; i < m.getParameterCount(); i++) {
            text.append(i == 0 ? "" : ",").append(m.getParameterTypes()[i]);
        }
        text.append(")");
        for (Class<?> thrown : m.getExceptionTypes()) {
            text.append(" throws ").append(thrown.getSimpleName());
        }
        return text.toString();
    }

    private static void fields(Due due, Class<?> of) {
        for (Field f : of.getDeclaredFields()) {
            boolean open = Modifier.isPublic(f.getModifiers());
            due.answer(of.getSimpleName() + "." + f.getName() + " is public", open, f.getName().equals("NOTHING"));
            if (Modifier.isStatic(f.getModifiers())) {
                due.answer("static " + f.getName() + " is final", Modifier.isFinal(f.getModifiers()), true);
            }
            if (of == ExactFolds.class && !open) {
                due.answer(f.getName() + " is private", Modifier.isPrivate(f.getModifiers()), true);
            }
        }
    }
}
