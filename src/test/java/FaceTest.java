import java.lang.reflect.Constructor;
import java.lang.reflect.Field;
import java.lang.reflect.Method;
import java.lang.reflect.Modifier;
import java.util.Arrays;
import java.util.Set;
import java.util.TreeSet;

/** The public face: just the document's constants, constructor and methods. */
public final class FaceTest {
    private static final Set<String> FACE = new TreeSet<>(Arrays.asList(
            "INVALID_ARGUMENT=-1", "NOT_POSSIBLE=-2", "LIMIT_REACHED=-3", "NOT_FOUND=-4", "new/0",
            "addShower/3", "cancel/1", "shower/2", "run/1", "undo/0", "set/2", "wind/0", "addGears/2",
            "removeGears/1", "gear/2", "count/1", "account/1", "mark/2", "storm/2", "greatestStorm/0",
            "gapForOne/0", "ifRun/2", "capacityFor/2", "untilStop/0", "gearsFor/1", "type/1", "clearText/0",
            "fault/1", "lay/0"));

    public static void main(String[] args) throws IllegalAccessException {
        Set<String> face = new TreeSet<>();
        for (Field field : RainRecorder.class.getDeclaredFields()) {
            if (!Modifier.isPrivate(field.getModifiers())) {
                face.add(field.getName() + "=" + field.get(null));
            }
        }
        for (Constructor<?> constructor : RainRecorder.class.getDeclaredConstructors()) {
            face.add("new/" + constructor.getParameterCount());
        }
        for (Method method : RainRecorder.class.getDeclaredMethods()) {
            if (!Modifier.isPrivate(method.getModifiers()) && !method.isSynthetic()) {
                face.add(method.getName() + "/" + method.getParameterCount());
                Script.due("int of " + method.getName(), method.getReturnType() == int.class ? 1 : 0, 1);
            }
        }
        if (!face.equals(FACE)) {
            System.out.println("the face is " + face);
        }
        Script.due("the face as the document's", face.equals(FACE) ? 1 : 0, 1);
        Script.due("public and final", RainRecorder.class.getModifiers(), Modifier.PUBLIC | Modifier.FINAL);
        Script.end();
    }
}
