import java.lang.reflect.Constructor;
import java.lang.reflect.Field;
import java.lang.reflect.Method;
import java.lang.reflect.Modifier;
import java.util.Arrays;
import java.util.Set;
import java.util.TreeSet;

/** The public face, and that nothing else of the class can be seen from outside. */
public final class FaceTest {
    private static final String INDEX = "IndexOutOfBoundsException ";
    private static final String ARGUMENT = "IllegalArgumentException ";
    private static final String STATE = "IllegalStateException ";

    public static void main(String[] args) {
        Check.equal("public final", ResidueFlows.class.getModifiers(), Modifier.PUBLIC | Modifier.FINAL);
        constants();
        methods();
        constructors();
        classesInside();
        Check.end();
    }

    private static void constants() {
        Check.equal("NONE", ResidueFlows.NONE, -1);
        Check.equal("BARK", ResidueFlows.BARK, 0);
        Check.equal("CHIPS", ResidueFlows.CHIPS, 1);
        Check.equal("DUST", ResidueFlows.DUST, 2);
        Check.equal("OFFCUTS", ResidueFlows.OFFCUTS, 3);
        Set<String> seen = new TreeSet<>();
        for (Field field : ResidueFlows.class.getDeclaredFields()) {
            if (!Modifier.isPrivate(field.getModifiers())) {
                seen.add(Modifier.toString(field.getModifiers()) + " " + field.getType() + " " + field.getName());
            }
        }
        Set<String> due = new TreeSet<>();
        for (String name : new String[] {"NONE", "BARK", "CHIPS", "DUST", "OFFCUTS"}) {
            due.add("public static final int " + name);
        }
        Check.same("the constants", seen.toString(), due.toString());
    }

    private static void methods() {
        Set<String> due = new TreeSet<>(Arrays.asList(
                "void share[int, int, int] " + INDEX + ARGUMENT,
                "int log[int, int, int] " + ARGUMENT,
                "long volume[int, boolean] " + INDEX + STATE,
                "long boards[boolean] " + STATE,
                "int bin[int, int] " + INDEX + ARGUMENT + STATE,
                "boolean pour[int, int, int] " + INDEX + ARGUMENT,
                "long about[int, int] " + INDEX,
                "void screen[int, int, int, int, int, int] " + INDEX + ARGUMENT,
                "boolean send[int, int, int] " + INDEX + ARGUMENT + STATE,
                "void scale[int, long] " + INDEX + ARGUMENT,
                "long shift[int] " + INDEX,
                "void begin[] ",
                "int row[int, int] " + ARGUMENT + STATE,
                "long burn[int, int, int] " + INDEX + ARGUMENT + STATE,
                "long sell[int, int, int] " + INDEX + ARGUMENT + STATE,
                "void span[int, int, int] " + INDEX + ARGUMENT,
                "boolean mix[int, int, int] " + INDEX + ARGUMENT + STATE,
                "long carbon[] "));
        Set<String> seen = new TreeSet<>();
        Set<String> publicNames = new TreeSet<>();
        Set<String> privateNames = new TreeSet<>();
        for (Method method : ResidueFlows.class.getDeclaredMethods()) {
            if (Modifier.isPrivate(method.getModifiers())) {
                privateNames.add(method.getName());
                continue;
            }
            publicNames.add(method.getName());
            Check.equal(method.getName() + " is public alone", method.getModifiers(), Modifier.PUBLIC);
            StringBuilder thrown = new StringBuilder();
            for (Class<?> type : method.getExceptionTypes()) {
                thrown.append(type.getSimpleName()).append(' ');
            }
            seen.add(method.getReturnType() + " " + method.getName()
                    + Arrays.toString(method.getParameterTypes()) + " " + thrown);
        }
        Check.same("the methods", seen.toString(), due.toString());
        privateNames.retainAll(publicNames);
        Check.same("private methods with a public one's name", privateNames.toString(), "[]");
    }

    private static void constructors() {
        Constructor<?>[] all = ResidueFlows.class.getDeclaredConstructors();
        Check.equal("constructors", all.length, 1);
        Check.equal("the constructor is public", all[0].getModifiers(), Modifier.PUBLIC);
        Check.equal("the constructor's parameters", all[0].getParameterCount(), 0);
    }

    private static void classesInside() {
        for (Class<?> inside : ResidueFlows.class.getDeclaredClasses()) {
            int modifiers = inside.getModifiers();
            Check.equal(inside + " is static", Modifier.isStatic(modifiers), true);
            Check.equal(inside + " is seen", Modifier.isPublic(modifiers) || Modifier.isProtected(modifiers), false);
        }
    }
}
