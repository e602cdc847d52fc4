import java.lang.reflect.Constructor;
import java.lang.reflect.Field;
import java.lang.reflect.Method;
import java.lang.reflect.Modifier;
import java.util.ArrayList;
import java.util.Arrays;
import java.util.Collections;
import java.util.List;

/** The class has the document's public face, and nothing of its own beside it. */
public final class FaceTest {
    private static final String[] METHODS = {
        "void element(int,int,int,int) AS",
        "int link(int,int,int,int) AS",
        "void source(int,int,int,int) AS",
        "int priority(int,int,int) A",
        "int restore(int,int) A",
        "boolean tracing(boolean) ",
        "int command(int,int,int) A",
        "boolean lockout(int,int,boolean) A",
        "boolean fail(int,boolean) A",
        "boolean failElement(int,boolean) A",
        "void lose(int,boolean) A",
        "int rounds(int) A",
        "int settled() ",
        "int state(int,int) A",
        "long phase(int) A",
        "int sends(int,int) A",
        "int traced(int) A",
        "boolean loop() ",
        "int best(int) A",
        "int check() ",
        "int finding(int,int) A",
    };

    public static void main(String[] args) throws Exception {
        Due due = new Due();
        due.is("public final class", Modifier.isFinal(ClockTree.class.getModifiers())
                && Modifier.isPublic(ClockTree.class.getModifiers()), true);
        due.is("NONE", ClockTree.NONE, -1);

        List<String> methods = new ArrayList<>();
        for (Method method : ClockTree.class.getDeclaredMethods()) {
            if (!Modifier.isPrivate(method.getModifiers()) && !method.isSynthetic()) {
                due.is(method.getName() + " is public", Modifier.isPublic(method.getModifiers()), true);
                methods.add(told(method));
            }
        }
        List<String> want = new ArrayList<>(Arrays.asList(METHODS));
        Collections.sort(want);
        Collections.sort(methods);
        if (!methods.equals(want)) {
            due.say("the methods are " + methods + ", due are " + want);
        }

        for (Field field : ClockTree.class.getDeclaredFields()) {
            boolean due1 = field.getName().equals("NONE");
            due.is(field.getName() + " is visible", !Modifier.isPrivate(field.getModifiers()), due1);
        }
        Constructor<?>[] constructors = ClockTree.class.getDeclaredConstructors();
        due.is("constructors", constructors.length, 1);
        due.is("constructor's parameters", constructors[0].getParameterCount(), 0);
        due.is("constructor is public", Modifier.isPublic(constructors[0].getModifiers()), true);
        due.end();
    }

    private static String told(Method method) {
        StringBuilder text = new StringBuilder();
        text.append(method.getReturnType()).append(' ').append(method.getName()).append('(');
        for (int i = 0; i < method.getParameterCount(); i++) {
            text.append(i == 0 ? "" : ",").append(method.getParameterTypes()[i]);
        }
        text.append(") ");
        for (Class<?> thrown : method.getExceptionTypes()) {
            text.append(thrown == IllegalArgumentException.class ? "A"
                    : thrown == IllegalStateException.class ? "S" : thrown.getName());
        }
        return text.toString();
    }
}
