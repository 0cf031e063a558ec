import java.lang.reflect.Constructor;
import java.lang.reflect.Field;
import java.lang.reflect.Method;
import java.lang.reflect.Modifier;
import java.util.ArrayList;
import java.util.Arrays;
import java.util.Collections;
import java.util.List;

/** The public face, and rules 1 and 5 of LANGUAGE.md as far as they can be seen from outside. */
public final class FaceTest {
    private static final String[] FACE = {
        "int setRange(int, int, int, boolean) IndexOutOfBoundsException IllegalArgumentException",
        "int setValve(int, int, int) IndexOutOfBoundsException IllegalArgumentException",
        "int setSignal(int) IllegalArgumentException",
        "int tune(int, int) IllegalArgumentException",
        "int service(int) IndexOutOfBoundsException",
        "int putStem(int, int) IndexOutOfBoundsException IllegalArgumentException",
        "int run(int) IllegalArgumentException IllegalStateException",
        "int valve(int, int) IndexOutOfBoundsException IllegalArgumentException",
        "int pair(int) IllegalArgumentException",
        "int ledger(int, int) IllegalArgumentException",
        "int ledgerSum(int, int) IndexOutOfBoundsException IllegalArgumentException",
        "double meanFlow()",
        "int idealFlow(int) IllegalArgumentException",
        "int signalFor(int) IllegalArgumentException",
        "int flatSignals()",
        "int firstFall()",
        "int moveFor(int, int) IndexOutOfBoundsException IllegalArgumentException",
        "int restAfter(int) IllegalArgumentException",
        "int wornAfter(int, int, int) IndexOutOfBoundsException IllegalArgumentException",
        "int missedWithin(int) IllegalArgumentException",
        "int type(int) IllegalArgumentException IllegalStateException",
        "int clearCommands()",
        "int runCommands()",
        "int undo() IllegalStateException",
        "long digest()",
    };

    public static void main(String[] args) {
        Check.sentence("The public face", "public final class ValveTwins {");
        methods();
        fields();
        constructors();
        inside();
        Check.finish();
    }

    private static void methods() {
        List<String> face = new ArrayList<>();
        List<String> publicNames = new ArrayList<>();
        List<Method> others = new ArrayList<>();
        for (Method method : ValveTwins.class.getDeclaredMethods()) {
            if (Modifier.isPublic(method.getModifiers())) {
                face.add(describe(method));
                publicNames.add(method.getName());
                Check.count(!Modifier.isStatic(method.getModifiers()), method + " is static");
            } else if (!method.isSynthetic()) {
                others.add(method);
            }
        }
        List<String> wanted = new ArrayList<>(Arrays.asList(FACE));
        Collections.sort(wanted);
        Collections.sort(face);
        Check.count(face.equals(wanted), "the face is " + face);
        for (Method method : others) {
            Check.count(Modifier.isPrivate(method.getModifiers()), method + " is not private");
            Check.count(!publicNames.contains(method.getName()), method + " bears the name of a public one");
        }
    }

    private static String describe(Method method) {
        StringBuilder text = new StringBuilder(method.getReturnType() + " " + method.getName() + "(");
        String gap = "";
        for (Class<?> parameter : method.getParameterTypes()) {
            text.append(gap).append(parameter);
            gap = ", ";
        }
        text.append(")");
        for (Class<?> thrown : method.getExceptionTypes()) {
            text.append(" ").append(thrown.getSimpleName());
        }
        return text.toString();
    }

    private static void fields() {
        for (Field field : ValveTwins.class.getDeclaredFields()) {
            int modifiers = field.getModifiers();
            if (field.getName().equals("NONE")) {
                boolean right = Modifier.isPublic(modifiers) && Modifier.isStatic(modifiers) && Modifier.isFinal(modifiers);
                Check.count(right && field.getType() == int.class, field + " is not as the face has it");
            } else {
                Check.count(Modifier.isPrivate(modifiers), field + " is not private");
                Check.count(!Modifier.isStatic(modifiers) || Modifier.isFinal(modifiers), field + " can change");
            }
        }
    }

    private static void constructors() {
        Constructor<?>[] all = ValveTwins.class.getDeclaredConstructors();
        Check.due("constructors", all.length, 1);
        Check.count(Modifier.isPublic(all[0].getModifiers()), "the constructor is not public");
        Check.due("its parameters", all[0].getParameterCount(), 0);
        int modifiers = ValveTwins.class.getModifiers();
        Check.count(Modifier.isPublic(modifiers) && Modifier.isFinal(modifiers), "the class is not public and final");
    }

    private static void inside() {
        for (Class<?> inner : ValveTwins.class.getDeclaredClasses()) {
            int modifiers = inner.getModifiers();
            Check.count(!Modifier.isPublic(modifiers) && !Modifier.isProtected(modifiers), inner + " can be seen");
            Check.count(Modifier.isStatic(modifiers), inner + " is not static");
            for (Field field : inner.getDeclaredFields()) {
                boolean kept = Modifier.isFinal(field.getModifiers()) || !Modifier.isStatic(field.getModifiers());
                Check.count(kept || field.isSynthetic(), field + " is static and can change");
            }
        }
    }
}
