import java.lang.reflect.Constructor;
import java.lang.reflect.Field;
import java.lang.reflect.Method;
import java.lang.reflect.Modifier;
import java.util.Arrays;
import java.util.Set;
import java.util.TreeSet;

/** The class shows the document's face and nothing else. */
public final class FaceTest {
    private static final String[] FACE = {
        "int append(int,int,int,int,int)",
        "int parse(int) IllegalArgumentException",
        "int errorPosition()",
        "int size(int) IllegalArgumentException",
        "int tick()",
        "int between(int,int) IndexOutOfBoundsException",
        "int travel(int,int) IndexOutOfBoundsException",
        "int ladder(int) IllegalArgumentException",
        "int station(int,int) IndexOutOfBoundsException IllegalArgumentException",
        "int triggered()",
        "int pick(int,int) IndexOutOfBoundsException IllegalArgumentException",
        "boolean fits(int,int) IndexOutOfBoundsException",
        "int event(int,int) IndexOutOfBoundsException IllegalArgumentException",
        "int eventPick(int,int) IndexOutOfBoundsException",
        "int misfit(int,int) IndexOutOfBoundsException IllegalStateException",
        "int describe(int) IndexOutOfBoundsException",
        "int describedByte(int)",
        "int ratioAfter(int,int,int) IndexOutOfBoundsException IllegalArgumentException",
        "int eventsWithout(int,int) IndexOutOfBoundsException IllegalArgumentException IllegalStateException",
        "int ticksToEvent()",
        "int setLevel(int,int) IndexOutOfBoundsException IllegalArgumentException",
        "int pass(int) IllegalArgumentException IllegalStateException",
        "int mute(int) IndexOutOfBoundsException IllegalStateException",
        "int unmute(int) IndexOutOfBoundsException IllegalStateException",
        "int retract(int) IndexOutOfBoundsException IllegalStateException",
        "int undo()",
        "boolean saveSnapshot(int) IndexOutOfBoundsException",
        "int restoreSnapshot(int) IndexOutOfBoundsException IllegalStateException",
    };

    public static void main(String[] args) {
        Due due = new Due();
        Class<?> type = TriggerNetwork.class;
        due.same("class", "public final", Modifier.toString(type.getModifiers()));
        Set<String> shown = new TreeSet<>();
        Set<String> publicNames = new TreeSet<>();
        Set<String> privateNames = new TreeSet<>();
        for (Method method : type.getDeclaredMethods()) {
            if (Modifier.isPrivate(method.getModifiers())) {
                privateNames.add(method.getName());
            } else {
                shown.add(faceOf(method));
                publicNames.add(method.getName());
                due.same(method.getName(), "public", Modifier.toString(method.getModifiers()));
            }
        }
        due.same("methods", new TreeSet<>(Arrays.asList(FACE)).toString(), shown.toString());
        privateNames.retainAll(publicNames);
        due.same("private methods with public names", "[]", privateNames.toString());
        for (Field field : type.getDeclaredFields()) {
            if (!Modifier.isPrivate(field.getModifiers())) {
                due.same("field", "public static final int NONE",
                        Modifier.toString(field.getModifiers()) + " " + field.getType() + " " + field.getName());
            }
        }
        Constructor<?>[] constructors = type.getDeclaredConstructors();
        due.same("constructors", 1, constructors.length);
        due.same("constructor", "public TriggerNetwork()", constructors[0].toString());
        for (Class<?> inside : type.getDeclaredClasses()) {
            due.same(inside.getName(), "private static final", Modifier.toString(inside.getModifiers()));
        }
        due.same("NONE", -1, TriggerNetwork.NONE);
        due.finish();
    }

    private static String faceOf(Method method) {
        StringBuilder text = new StringBuilder();
        text.append(method.getReturnType()).append(' ').append(method.getName()).append('(');
        Class<?>[] arguments = method.getParameterTypes();
        for (int k = 0; k < arguments.length; k++) {
            text.append(k == 0 ? "" : ",").append(arguments[k]);
        }
        text.append(')');
        for (Class<?> exception : method.getExceptionTypes()) {
            text.append(' ').append(exception.getSimpleName());
        }
        return text.toString();
    }
}
