import java.lang.reflect.Constructor;
import java.lang.reflect.Field;
import java.lang.reflect.Method;
import java.lang.reflect.Modifier;
import java.util.Arrays;
import java.util.Set;
import java.util.TreeSet;

/** The class shows the document's face and no other member. */
public final class FaceTest {
    private static final Check CHECK = new Check();

    public static void main(String[] args) {
        CHECK.due("NONE", -1, NestPascal.NONE);
        CHECK.due("whether the class is public and final", Modifier.PUBLIC | Modifier.FINAL,
                NestPascal.class.getModifiers());
        Set<String> shown = new TreeSet<>();
        Set<String> hidden = new TreeSet<>();
        for (Method m : NestPascal.class.getDeclaredMethods()) {
            if (Modifier.isPrivate(m.getModifiers())) {
                hidden.add(m.getName());
            } else {
                shown.add(Modifier.toString(m.getModifiers()) + " " + m.getReturnType() + " " + m.getName()
                        + Arrays.toString(m.getParameterTypes()) + Arrays.toString(m.getExceptionTypes()));
            }
        }
        for (Class<?> inside : NestPascal.class.getDeclaredClasses()) {
            CHECK.due("whether " + inside.getName() + " is static", true,
                    Modifier.isStatic(inside.getModifiers()));
            for (Method m : inside.getDeclaredMethods()) {
                hidden.add(m.getName());
            }
        }
        for (Field f : NestPascal.class.getDeclaredFields()) {
            if (!Modifier.isPrivate(f.getModifiers())) {
                shown.add(Modifier.toString(f.getModifiers()) + " " + f.getType() + " " + f.getName());
            }
        }
        for (Constructor<?> c : NestPascal.class.getDeclaredConstructors()) {
            shown.add(Modifier.toString(c.getModifiers()) + Arrays.toString(c.getParameterTypes()));
        }
        String mayThrow = "[class java.lang.IllegalArgumentException]";
        Set<String> face = new TreeSet<>(Arrays.asList(
                "public static final int NONE", "public[]",
                "public boolean write[long][]", "public int compile[]" + mayThrow, "public int error[int][]",
                "public int code[int, int][]", "public boolean start[][]", "public int run[int]" + mayThrow,
                "public int about[int][]", "public int cell[int][]", "public int written[int][]",
                "public int variable[int, int][]"));
        CHECK.due("the face", face.toString(), shown.toString());
        for (String name : hidden) {
            CHECK.due("whether a public method bears the name " + name + ", too", false,
                    face.toString().contains(" " + name + "["));
        }
        CHECK.finish();
    }
}
