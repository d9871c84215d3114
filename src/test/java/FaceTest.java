import java.lang.reflect.Constructor;
import java.lang.reflect.Field;
import java.lang.reflect.Method;
import java.lang.reflect.Modifier;
import java.util.Arrays;
import java.util.HashSet;
import java.util.List;
import java.util.Set;
import java.util.TreeSet;

/** The public face, and those rules of LANGUAGE.md that the compiled classes show. */
final class FaceTest {
    private static final String INDEX = " throws IndexOutOfBoundsException";
    private static final String ARGUMENT = " throws IllegalArgumentException";
    private static final String STATE = " throws IllegalStateException";

    private static final List<String> FACE = List.of(
        "int addClass(int)" + INDEX + STATE,
        "int addMethod()" + STATE,
        "int append(int,int,int,int,int,int)" + INDEX + ARGUMENT + STATE,
        "int implement(int,int,int)" + INDEX,
        "int understands(int,int)" + INDEX,
        "boolean setPolicy(int,int,int)" + ARGUMENT,
        "int forget()",
        "int run(int,int,int)" + INDEX + ARGUMENT,
        "int result()",
        "int resultClass()",
        "int error()",
        "long cost()",
        "int steps()",
        "int depth()",
        "long total(int)" + INDEX,
        "int tier(int)" + INDEX,
        "int heat(int)" + INDEX,
        "int disappointments(int)" + INDEX,
        "int met(int,int)" + INDEX,
        "int metClass(int,int,int)" + INDEX,
        "long digest()");

    public static void main(String[] args) {
        publicMethods();
        otherMembers();
        nestedClasses();
        Check.end();
    }

    private static String shown(Method m) {
        StringBuilder text = new StringBuilder();
        text.append(m.getReturnType().getName()).append(' ').append(m.getName()).append('(');
        for (int i = 0; i < m.getParameterCount(); i++) {
            text.append(i == 0 ? "" : ",").append(m.getParameterTypes()[i].getName());
        }
        text.append(')');
        for (Class<?> e : m.getExceptionTypes()) {
            text.append(" throws ").append(e.getSimpleName());
        }
        return text.toString();
    }

    private static void publicMethods() {
        Set<String> found = new TreeSet<>();
        for (Method m : TieredMachine.class.getDeclaredMethods()) {
            if (!Modifier.isPrivate(m.getModifiers())) {
                Check.due(m.getName() + " is public and no more", m.getModifiers(), Modifier.PUBLIC);
                found.add(shown(m));
            }
        }
        Check.due("the face", found.toString(), new TreeSet<>(FACE).toString());
        Check.due("the class", TieredMachine.class.getModifiers(), Modifier.PUBLIC | Modifier.FINAL);
        Constructor<?>[] constructors = TieredMachine.class.getDeclaredConstructors();
        Check.due("one constructor", constructors.length, 1);
        Check.due("its parameters", constructors[0].getParameterCount(), 0);
        Check.due("it is public", constructors[0].getModifiers(), Modifier.PUBLIC);
    }

    private static void otherMembers() {
        Set<String> names = new HashSet<>();
        for (String line : FACE) {
            names.add(line.substring(line.indexOf(' ') + 1, line.indexOf('(')));
        }
        for (Method m : TieredMachine.class.getDeclaredMethods()) {
            if (Modifier.isPrivate(m.getModifiers())) {
                Check.due("a private method with a public name: " + m.getName(), names.contains(m.getName()), false);
            }
        }
        int own = 0;
        for (Field f : TieredMachine.class.getDeclaredFields()) {
            int is = f.getModifiers();
            Check.due("the field " + f.getName() + " is private", Modifier.isPrivate(is), true);
            Check.due("if static, then final: " + f.getName(), !Modifier.isStatic(is) || Modifier.isFinal(is), true);
            own += Modifier.isStatic(is) ? 0 : 1;
        }
        Check.due("at most 20 fields", own <= 20, true);
    }

    private static void nestedClasses() {
        Class<?>[] nested = TieredMachine.class.getDeclaredClasses();
        Check.due("at most 11 of them: " + Arrays.toString(nested), nested.length <= 11, true);
        for (Class<?> c : nested) {
            int is = c.getModifiers();
            Check.due(c.getName() + " is static", Modifier.isStatic(is), true);
            Check.due(c.getName() + " is hidden", Modifier.isPublic(is) || Modifier.isProtected(is), false);
            for (Field f : c.getDeclaredFields()) {
                Check.due(c.getName() + " has no static state", Modifier.isStatic(f.getModifiers()), false);
            }
        }
    }
}
