import java.lang.reflect.Constructor;
import java.lang.reflect.Field;
import java.lang.reflect.Method;
import java.lang.reflect.Modifier;
import java.util.Arrays;
import java.util.TreeSet;

/** The public face: the constructor and the methods of the document, with their exceptions, and no more. */
public final class FaceTest {
    private static final String[] METHODS = {
        "int setCell(int, int, int) IndexOutOfBounds IllegalArgument IllegalState",
        "int cell(int, int, int) IndexOutOfBounds IllegalArgument",
        "int setGoal(int, int, int) IndexOutOfBounds IllegalState",
        "int dropGoal(int) IndexOutOfBounds NoSuchElement",
        "int distance(int, int, int) IndexOutOfBounds NoSuchElement",
        "int flow(int, int, int) IndexOutOfBounds NoSuchElement",
        "int steps(int, int, int) IndexOutOfBounds NoSuchElement",
        "int setPatience(int) IllegalArgument",
        "int add(int, int, int, int) IndexOutOfBounds IllegalArgument IllegalState",
        "int remove(int) IndexOutOfBounds",
        "int change(int, boolean, int) IndexOutOfBounds IllegalArgument",
        "int agent(int, int) IndexOutOfBounds IllegalArgument",
        "int agents(int) IllegalArgument",
        "int join(int, int, int, int) IndexOutOfBounds IllegalArgument IllegalState",
        "int leave(int) IndexOutOfBounds IllegalState",
        "int disorder(int) IndexOutOfBounds IllegalState",
        "int tick(int) IllegalArgument",
        "int statistic(int) IllegalArgument",
        "int forecast(int) IndexOutOfBounds NoSuchElement",
        "int bottleneck() NoSuchElement",
        "int jams()",
        "int jam(int, int) IndexOutOfBounds IllegalArgument",
        "double meanDistance() Arithmetic",
        "float density() Arithmetic",
        "int feed(char) IllegalState",
        "int readMap() IllegalState",
        "char map(int) IndexOutOfBounds",
        "int undo() IllegalState",
        "int save()",
        "int restore() IllegalState"
    };

    public static void main(String[] args) {
        Class<?> face = CrowdSimulator.class;
        Check.same("public and final", face.getModifiers(), Modifier.PUBLIC | Modifier.FINAL);
        Check.same("methods", methodsOf(face).toString(), new TreeSet<>(Arrays.asList(METHODS)).toString());
        Constructor<?>[] constructors = face.getDeclaredConstructors();
        Check.same("one constructor", constructors.length, 1);
        Check.same("it is public", constructors[0].getModifiers(), Modifier.PUBLIC);
        Check.same("without parameters", constructors[0].getParameterCount(), 0);
        Check.same("without exceptions", constructors[0].getExceptionTypes().length, 0);
        for (Field field : face.getDeclaredFields()) {
            Check.same("private: " + field, field.getModifiers() & Modifier.PRIVATE, Modifier.PRIVATE);
            boolean isVariable = Modifier.isStatic(field.getModifiers()) && !Modifier.isFinal(field.getModifiers());
            Check.same("no static state: " + field, isVariable ? 1 : 0, 0);
        }
        Check.end("FaceTest");
    }

    private static TreeSet<String> methodsOf(Class<?> face) {
        TreeSet<String> methods = new TreeSet<>();
        for (Method method : face.getDeclaredMethods()) {
            if (!Modifier.isPrivate(method.getModifiers())) {
                methods.add(toldOf(method));
            }
        }
        return methods;
    }

    private static String toldOf(Method method) {
        StringBuilder told = new StringBuilder(Modifier.isStatic(method.getModifiers()) ? "static " : "");
        told.append(method.getReturnType().getSimpleName()).append(' ').append(method.getName()).append('(');
        for (int i = 0; i < method.getParameterCount(); i++) {
            told.append(i == 0 ? "" : ", ").append(method.getParameterTypes()[i].getSimpleName());
        }
        told.append(')');
        for (Class<?> exception : method.getExceptionTypes()) {
            told.append(' ').append(exception.getSimpleName().replace("Exception", ""));
        }
        return told.toString();
    }
}
