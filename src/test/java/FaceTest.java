import java.lang.reflect.Constructor;
import java.lang.reflect.Field;
import java.lang.reflect.Method;
import java.lang.reflect.Modifier;
import java.util.Arrays;
import java.util.Set;
import java.util.TreeSet;

/** The public face, and nothing beside it that is not private. */
public final class FaceTest {
    private static final String[] FACE = {
        "void born(int)", "void die(int)", "boolean serve(int,int)", "boolean manage(int,int)",
        "boolean item(int,int,int)", "boolean draft(int,int)", "int send(int,int,boolean)", "int take(int)",
        "int latest(int,int)", "int reply(int)", "boolean free(int,int)", "int read(int,int,int,int)",
        "boolean hold(int,int,boolean)", "boolean drop(int,int,boolean)", "boolean watch(int,int,int)",
        "int count(int,int)", "int handle(int,int,int)",
    };

    public static void main(String[] args) {
        Checked x = new Checked("face");
        Class<?> type = ObjectDriver.class;
        x.due("modifiers", type.getModifiers(), Modifier.PUBLIC | Modifier.FINAL);
        Constructor<?>[] constructors = type.getDeclaredConstructors();
        x.due("constructors", constructors.length, 1);
        x.due("constructor's modifiers", constructors[0].getModifiers(), Modifier.PUBLIC);
        x.due("constructor's parameters", constructors[0].getParameterCount(), 0);
        Set<String> found = new TreeSet<>();
        for (Method method : type.getDeclaredMethods()) {
            if (!Modifier.isPrivate(method.getModifiers()) && !method.isSynthetic()) {
                x.due("modifiers of " + method, method.getModifiers(), Modifier.PUBLIC);
                found.add(signature(method));
                x.due("what is thrown by " + method.getName(), Set.of(method.getExceptionTypes()), thrownBy(method));
            }
        }
        x.due("methods", found, face());
        for (Field field : type.getDeclaredFields()) {
            if (field.isSynthetic()) {
                continue;
            }
            x.due("private " + field, Modifier.isPrivate(field.getModifiers()), true);
            x.due("no static state in " + field,
                    !Modifier.isStatic(field.getModifiers()) || Modifier.isFinal(field.getModifiers()), true);
        }
        Checked.end();
    }

    /** The methods of the document's face. */
    static Set<String> face() {
        return new TreeSet<>(Arrays.asList(FACE));
    }

    private static Set<Class<?>> thrownBy(Method method) {
        if (method.getName().equals("latest") || method.getName().equals("read")) {
            return Set.of(Checked.ARGUMENT, Checked.STATE, Checked.NO_ELEMENT);
        }
        return Set.of(Checked.ARGUMENT, Checked.STATE);
    }

    private static String signature(Method method) {
        StringBuilder parameters = new StringBuilder();
        for (Class<?> parameter : method.getParameterTypes()) {
            parameters.append(parameters.length() == 0 ? "" : ",").append(parameter.getName());
        }
        return method.getReturnType().getName() + " " + method.getName() + "(" + parameters + ")";
    }
}
