import java.lang.reflect.Constructor;
import java.lang.reflect.Field;
import java.lang.reflect.Method;
import java.lang.reflect.Modifier;
import java.util.ArrayList;
import java.util.Collections;
import java.util.List;

/** The public face is the document's, and nothing but private members stands beside it. */
public final class FaceTest {
    private static final String[] FACE = {
        "back(int,int,int):int throws IllegalArgumentException NoSuchElementException",
        "clear():int throws",
        "condition(int,int,int):int throws IllegalArgumentException IllegalStateException",
        "count(int):int throws IllegalArgumentException",
        "differ(int,int):int throws IllegalArgumentException",
        "drop(int,int,int):boolean throws IllegalArgumentException IllegalStateException",
        "empty(int):int throws IllegalArgumentException IllegalStateException",
        "has(int,int,int):boolean throws IllegalArgumentException",
        "kind(int,int):int throws IllegalArgumentException IllegalStateException",
        "leader(int,int):int throws IllegalArgumentException IllegalStateException",
        "length(int,int,int):int throws IllegalArgumentException",
        "next(int,int,int):int throws IllegalArgumentException NoSuchElementException",
        "of(int):int throws IllegalArgumentException",
        "pushed(int,int):int throws IllegalArgumentException NoSuchElementException",
        "relation(int,int,int):int throws IllegalArgumentException IllegalStateException",
        "route(int,int,int,int):int throws IllegalArgumentException NoSuchElementException",
        "set(int,int,int):int throws IllegalArgumentException IllegalStateException",
        "tally(int,int):int throws ArrayIndexOutOfBoundsException",
        "told(int,int):int throws IllegalArgumentException",
    };

    private FaceTest() {
    }

    public static void main(String[] args) {
        Check check = new Check();
        Class<?> face = RelationRows.class;
        check.yes("the class is public and final",
                Modifier.isPublic(face.getModifiers()) && Modifier.isFinal(face.getModifiers()));
        check.sameText("the methods", String.join("\n", openMethods(face)), String.join("\n", FACE));
        check.sameText("the fields", String.join(" ", openFields(face)), "NONE");
        check.same("NONE", RelationRows.NONE, -1);
        Constructor<?>[] made = face.getDeclaredConstructors();
        check.same("how many constructors", made.length, 1);
        check.yes("the constructor is public", Modifier.isPublic(made[0].getModifiers()));
        check.same("what the constructor throws", made[0].getExceptionTypes().length, 0);
        privateNames(check, face);
        check.end();
    }

    private static List<String> openMethods(Class<?> face) {
        List<String> found = new ArrayList<>();
        for (Method method : face.getDeclaredMethods()) {
            if (!Modifier.isPrivate(method.getModifiers())) {
                found.add(describe(method));
            }
        }
        Collections.sort(found);
        return found;
    }

    private static String describe(Method method) {
        List<String> taken = new ArrayList<>();
        for (Class<?> type : method.getParameterTypes()) {
            taken.add(type.getSimpleName());
        }
        StringBuilder text = new StringBuilder();
        text.append(method.getName()).append('(').append(String.join(",", taken)).append("):");
        text.append(method.getReturnType().getSimpleName()).append(" throws");
        for (Class<?> type : method.getExceptionTypes()) {
            text.append(' ').append(type.getSimpleName());
        }
        return text.toString();
    }

    private static List<String> openFields(Class<?> face) {
        List<String> found = new ArrayList<>();
        for (Field field : face.getDeclaredFields()) {
            if (!Modifier.isPrivate(field.getModifiers())) {
                found.add(field.getName());
            }
        }
        return found;
    }

    private static void privateNames(Check check, Class<?> face) {
        for (Method hidden : face.getDeclaredMethods()) {
            for (Method open : face.getDeclaredMethods()) {
                boolean clash = Modifier.isPrivate(hidden.getModifiers()) && Modifier.isPublic(open.getModifiers())
                        && hidden.getName().equals(open.getName());
                check.no("the private method " + hidden.getName() + " bears a public one's name", clash);
            }
        }
    }
}
