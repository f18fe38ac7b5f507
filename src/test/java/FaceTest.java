import java.lang.reflect.Constructor;
import java.lang.reflect.Field;
import java.lang.reflect.Method;
import java.lang.reflect.Modifier;
import java.util.Arrays;
import java.util.TreeSet;

/** The public face, and that no other member can be seen from outside. */
public final class FaceTest {
    public static void main(String[] args) {
        TreeSet<String> due = new TreeSet<>(Arrays.asList(
                "void poke(int, long, int)", "int peek(int)", "void begin()", "void type(long, int)",
                "void enter()", "int run(int)", "int steps()", "int place()", "int output(int)",
                "int stack(int)", "int local(int)", "int routines()"));
        TreeSet<String> seen = new TreeSet<>();
        TreeSet<String> hidden = new TreeSet<>();
        for (Method method : StoryMachine.class.getDeclaredMethods()) {
            if (Modifier.isPublic(method.getModifiers())) {
                seen.add(written(method));
            } else {
                Check.isTrue(method + " is private", Modifier.isPrivate(method.getModifiers()));
                hidden.add(method.getName());
            }
        }
        Check.isTrue("the public methods are " + seen, seen.equals(due));
        for (Method method : StoryMachine.class.getMethods()) {
            Check.isTrue("no private method is called " + method.getName(), !hidden.contains(method.getName()));
        }
        for (Field field : StoryMachine.class.getDeclaredFields()) {
            Check.isTrue(field + " is private", Modifier.isPrivate(field.getModifiers()));
        }
        Constructor<?>[] constructors = StoryMachine.class.getDeclaredConstructors();
        Check.same("constructors", constructors.length, 1);
        Check.isTrue("the constructor is public", Modifier.isPublic(constructors[0].getModifiers()));
        Check.same("its parameters", constructors[0].getParameterCount(), 0);
        Check.isTrue("final", Modifier.isFinal(StoryMachine.class.getModifiers()));
        Check.isTrue("public", Modifier.isPublic(StoryMachine.class.getModifiers()));
        for (Class<?> inside : StoryMachine.class.getDeclaredClasses()) {
            Check.isTrue(inside + " is static", Modifier.isStatic(inside.getModifiers()));
            Check.isTrue(inside + " is not public", !Modifier.isPublic(inside.getModifiers()));
        }
        Check.end();
    }

    private static String written(Method method) {
        StringBuilder text = new StringBuilder();
        text.append(method.getReturnType().getName()).append(' ').append(method.getName()).append('(');
        for (Class<?> parameter : method.getParameterTypes()) {
            text.append(text.charAt(text.length() - 1) == '(' ? "" : ", ").append(parameter.getName());
        }
        return text.append(')').toString();
    }
}
