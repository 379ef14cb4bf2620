import java.lang.reflect.Constructor;
import java.lang.reflect.Field;
import java.lang.reflect.Method;
import java.lang.reflect.Modifier;
import java.util.Arrays;
import java.util.Set;
import java.util.TreeSet;

/** The face is the document's, and nothing else can be seen from outside. */
public final class FaceTest {
    private static final String[] FACE = {
        "feed(long,int):int!IllegalArgumentException,IllegalStateException",
        "state():int!",
        "endCode():int!",
        "outLength():int!",
        "outAt(int):int!IndexOutOfBoundsException",
        "drop(int):boolean!",
        "messages():int!",
        "delivered():int!",
        "kind(int):int!NoSuchElementException",
        "length(int):int!NoSuchElementException",
        "byteAt(int,int):int!NoSuchElementException,IndexOutOfBoundsException",
        "take():int!NoSuchElementException",
        "pongs():int!",
        "write(long,int):boolean!",
        "clear():void!",
        "send(int,int):int!IllegalArgumentException,IllegalStateException",
        "ping():void!IllegalStateException",
        "close(int):void!IllegalArgumentException,IllegalStateException",
    };

    public static void main(String[] args) {
        Class<?> face = FramedTalk.class;
        OtherEnd.due("the class is final", Modifier.isFinal(face.getModifiers()), true);
        OtherEnd.due("the class is public", Modifier.isPublic(face.getModifiers()), true);
        OtherEnd.due("the methods", seenMethods(face), new TreeSet<>(Arrays.asList(FACE)));
        constructors(face);
        fields(face);
        for (Class<?> inside : face.getDeclaredClasses()) {
            OtherEnd.due(inside + " is static", Modifier.isStatic(inside.getModifiers()), true);
            OtherEnd.due(inside + " is public", Modifier.isPublic(inside.getModifiers()), false);
        }
        OtherEnd.end();
    }

    private static Set<String> seenMethods(Class<?> face) {
        Set<String> seen = new TreeSet<>();
        for (Method m : face.getDeclaredMethods()) {
            if (!Modifier.isPrivate(m.getModifiers())) {
                seen.add(m.getName() + "(" + names(m.getParameterTypes()) + "):" + m.getReturnType()
                    + "!" + names(m.getExceptionTypes()));
            }
        }
        return seen;
    }

    private static String names(Class<?>[] types) {
        StringBuilder all = new StringBuilder();
        for (Class<?> type : types) {
            all.append(all.length() == 0 ? "" : ",").append(type.getSimpleName());
        }
        return all.toString();
    }

    private static void constructors(Class<?> face) {
        Constructor<?>[] all = face.getDeclaredConstructors();
        OtherEnd.due("constructors", all.length, 1);
        OtherEnd.due("the constructor is public", Modifier.isPublic(all[0].getModifiers()), true);
        OtherEnd.due("the constructor's parameters", all[0].getParameterCount(), 0);
    }

    private static void fields(Class<?> face) {
        for (Field f : face.getDeclaredFields()) {
            OtherEnd.due(f + " is private", Modifier.isPrivate(f.getModifiers()), true);
            if (Modifier.isStatic(f.getModifiers())) {
                OtherEnd.due(f + " is final", Modifier.isFinal(f.getModifiers()), true);
            }
        }
    }
}
