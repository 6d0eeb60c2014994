import java.lang.reflect.Constructor;
import java.lang.reflect.Field;
import java.lang.reflect.Method;
import java.lang.reflect.Modifier;
import java.util.Arrays;
import java.util.Set;
import java.util.TreeSet;

/** The public face is the document's and no more. */
public final class FaceTest {
    public static void main(String[] args) {
        Check check = new Check();
        Class<?> face = SweptPaths.class;
        check.due("public", true, Modifier.isPublic(face.getModifiers()));
        check.due("final", true, Modifier.isFinal(face.getModifiers()));
        Set<String> due = new TreeSet<>(Arrays.asList(
                "public static final int SweptPaths.NONE",
                "public SweptPaths()",
                method("int", "body(int,int,int,int,int)", "IA,IS"),
                method("void", "start(int,int,int)", "IA"),
                method("int", "step(int)", "IA"),
                method("int", "pole(int,int)", "IA,IS"),
                method("int", "go(int,int,boolean)", "IA,IS"),
                method("int", "told(int,int)", "IA"),
                method("int", "corner(int,int,int)", "IA"),
                method("int", "swept()", ""),
                method("boolean", "cell(int,int)", "IA"),
                method("int", "clash(int)", "IA"),
                method("boolean", "isStuck()", ""),
                method("int", "part(int,int,int,boolean)", "IA,IS"),
                method("int", "clear(int)", "IA"),
                method("int", "best()", "IS"),
                method("int", "sweeps(int)", "IA,IS")));
        Set<String> got = visible(face);
        for (String member : due) {
            check.due("there is " + member, true, got.contains(member));
        }
        for (String member : got) {
            check.due("the document has " + member, true, due.contains(member));
        }
        check.end();
    }

    private static String method(String type, String name, String thrown) {
        String names = thrown.replace("IA", "java.lang.IllegalArgumentException")
                .replace("IS", "java.lang.IllegalStateException");
        return "public " + type + " SweptPaths." + name + (names.isEmpty() ? "" : " throws " + names);
    }

    private static Set<String> visible(Class<?> face) {
        Set<String> members = new TreeSet<>();
        for (Method method : face.getDeclaredMethods()) {
            if (!Modifier.isPrivate(method.getModifiers()) && !method.isSynthetic()) {
                members.add(method.toString());
            }
        }
        for (Field field : face.getDeclaredFields()) {
            if (!Modifier.isPrivate(field.getModifiers()) && !field.isSynthetic()) {
                members.add(field.toString());
            }
        }
        for (Constructor<?> constructor : face.getDeclaredConstructors()) {
            if (!Modifier.isPrivate(constructor.getModifiers()) && !constructor.isSynthetic()) {
                members.add(constructor.toString());
            }
        }
        return members;
    }
}
