import java.lang.reflect.Constructor;
import java.lang.reflect.Field;
import java.lang.reflect.Method;
import java.lang.reflect.Modifier;
import java.util.Arrays;
import java.util.TreeSet;

/** The document's public face, and nothing but it. */
public final class FaceTest {
    private static final String[] METHODS = {
        "int type(long,int)", "int read()", "int place()", "int told(int)", "int structure(int,int)",
        "long field(int,int)", "int function(int,int)", "long listed(int,int,int)", "long element(int)",
        "int operation(int,int)", "long operand(int,int,int)", "int write()", "int written(int)"
    };

    public static void main(String[] args) {
        Check.sentence("The public face", "public static final int BAD = -1;");
        Check.due("BAD", CodeTables.BAD, -1);
        Check.sentence("The public face", "public static final int FULL = -3;");
        Check.due("FULL", CodeTables.FULL, -3);
        Check.sentence("The public face", "public final class CodeTables");
        Check.holds("the class is public and final",
            (CodeTables.class.getModifiers() & (Modifier.PUBLIC | Modifier.FINAL)) == (Modifier.PUBLIC | Modifier.FINAL));
        methods();
        constructorsAndFields();
        Check.end();
    }

    private static void methods() {
        TreeSet<String> seen = new TreeSet<>();
        TreeSet<String> names = new TreeSet<>();
        for (Method method : CodeTables.class.getDeclaredMethods()) {
            if (!Modifier.isPrivate(method.getModifiers())) {
                Check.holds(method + " is public", Modifier.isPublic(method.getModifiers()));
                seen.add(told(method));
                names.add(method.getName());
            }
        }
        Check.holds("the methods are those of the document: " + seen, seen.equals(new TreeSet<>(Arrays.asList(METHODS))));
        for (Method method : CodeTables.class.getDeclaredMethods()) {
            if (Modifier.isPrivate(method.getModifiers())) {
                Check.holds(method + " has a name of its own", !names.contains(method.getName()));
            }
        }
    }

    private static String told(Method method) {
        StringBuilder text = new StringBuilder(method.getReturnType() + " " + method.getName() + "(");
        for (Class<?> parameter : method.getParameterTypes()) {
            text.append(text.charAt(text.length() - 1) == '(' ? "" : ",").append(parameter);
        }
        return text.append(")").toString();
    }

    private static void constructorsAndFields() {
        Check.sentence("The public face", "public CodeTables();");
        Constructor<?>[] constructors = CodeTables.class.getDeclaredConstructors();
        Check.due("how many constructors", constructors.length, 1);
        Check.holds("it is public", Modifier.isPublic(constructors[0].getModifiers()));
        Check.due("what it takes", constructors[0].getParameterCount(), 0);
        TreeSet<String> open = new TreeSet<>();
        for (Field field : CodeTables.class.getDeclaredFields()) {
            if (!Modifier.isPrivate(field.getModifiers())) {
                open.add(field.getName());
            }
        }
        Check.holds("BAD and FULL alone are open: " + open, open.equals(new TreeSet<>(Arrays.asList("BAD", "FULL"))));
    }
}
