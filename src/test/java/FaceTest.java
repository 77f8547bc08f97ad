import java.lang.reflect.Constructor;
import java.lang.reflect.Field;
import java.lang.reflect.Method;
import java.lang.reflect.Modifier;
import java.util.Arrays;
import java.util.Set;
import java.util.TreeSet;

/** The class shows the document's face and nothing else, and keeps no state beside its objects. */
public final class FaceTest {
    private static final String[] FACE = {
        "int club()", "int member(int)", "boolean leave(int,int)", "boolean bill(int,int,int,int)",
        "boolean payer(int,int)", "boolean weight(int,int)", "boolean line(int,int)", "int post()",
        "boolean strike(int)", "long about(int,int,int)", "long total(int)", "long balance(int,int)",
        "long drift(int,int)", "int settle(int)", "long transfer(int,int,int)", "boolean tick(int,int)",
        "int giveUp(int)", "boolean close(int)", "int count(int,int)", "int groupOf(int,int)",
    };

    public static void main(String[] args) {
        methods();
        exceptions();
        namesAreApart();
        constructors();
        fields();
        classesInside();
        Due.end();
    }

    private static String told(Method m) {
        StringBuilder text = new StringBuilder(m.getReturnType().getName());
        text.append(' ').append(m.getName()).append('(');
        Class<?>[] types = m.getParameterTypes();
        for (int k = 0; k < types.length; k++) {
            text.append(k == 0 ? "" : ",").append(types[k].getName());
        }
        return text.append(')').toString();
    }

    private static void methods() {
        Due.yes("the class is public and final", ExpenseClubs.class.getModifiers() == (Modifier.PUBLIC | Modifier.FINAL));
        Set<String> shown = new TreeSet<>();
        for (Method m : ExpenseClubs.class.getDeclaredMethods()) {
            if (!Modifier.isPrivate(m.getModifiers())) {
                Due.yes(m + " is public", m.getModifiers() == Modifier.PUBLIC);
                shown.add(told(m));
            }
        }
        Due.yes("methods: " + shown, shown.equals(new TreeSet<>(Arrays.asList(FACE))));
    }

    /** transfer names its two exceptions, and no other method names any. */
    private static void exceptions() {
        Class<?>[] due = {IndexOutOfBoundsException.class, IllegalArgumentException.class};
        for (Method m : ExpenseClubs.class.getDeclaredMethods()) {
            Class<?>[] named = m.getExceptionTypes();
            Due.yes("the exceptions of " + m, m.getName().equals("transfer") ? Arrays.equals(named, due) : named.length == 0);
        }
    }

    private static void namesAreApart() {
        Set<String> names = new TreeSet<>();
        for (String face : FACE) {
            names.add(face.substring(face.indexOf(' ') + 1, face.indexOf('(')));
        }
        for (Method m : ExpenseClubs.class.getDeclaredMethods()) {
            boolean hidden = Modifier.isPrivate(m.getModifiers());
            Due.no(m + " bears a public name", hidden && names.contains(m.getName()));
        }
        for (Class<?> inside : ExpenseClubs.class.getDeclaredClasses()) {
            for (Method m : inside.getDeclaredMethods()) {
                Due.no(m + " bears a public name", names.contains(m.getName()));
            }
        }
    }

    private static void constructors() {
        Constructor<?>[] all = ExpenseClubs.class.getDeclaredConstructors();
        Due.same("constructors", all.length, 1);
        Due.same("its parameters", all[0].getParameterCount(), 0);
        Due.yes("it is public", Modifier.isPublic(all[0].getModifiers()));
    }

    private static void fields() {
        for (Field f : ExpenseClubs.class.getDeclaredFields()) {
            boolean isStatic = Modifier.isStatic(f.getModifiers());
            Due.yes(f + " is private", Modifier.isPrivate(f.getModifiers()) || f.getName().equals("NONE"));
            Due.no(f + " is static state", isStatic && !Modifier.isFinal(f.getModifiers()));
        }
        Due.same("NONE", ExpenseClubs.NONE, -1);
        Due.same("constants that show", ExpenseClubs.class.getFields().length, 1);
    }

    private static void classesInside() {
        for (Class<?> inside : ExpenseClubs.class.getDeclaredClasses()) {
            Due.yes(inside + " is static", Modifier.isStatic(inside.getModifiers()));
            Due.no(inside + " is public", Modifier.isPublic(inside.getModifiers()));
            for (Field f : inside.getDeclaredFields()) {
                Due.no(f + " is static", Modifier.isStatic(f.getModifiers()));
            }
        }
    }
}
