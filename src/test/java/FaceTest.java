import java.lang.reflect.Field;
import java.lang.reflect.Member;
import java.lang.reflect.Method;
import java.lang.reflect.Modifier;
import java.util.Arrays;
import java.util.List;
import java.util.TreeSet;

/** The public face: word for word the document's, and nothing else to be seen; rule 1 of LANGUAGE.md. */
public final class FaceTest {
    public static void main(String[] args) {
        Room.due("REFUSED", DavRoom.REFUSED, -1);
        Room.due("NONE", DavRoom.NONE, -2);
        Room.due("FULL", DavRoom.FULL, -3);
        Room.due("the class's modifiers", DavRoom.class.getModifiers(), Modifier.PUBLIC | Modifier.FINAL);
        Room.due("constructors", DavRoom.class.getDeclaredConstructors().length, 1);
        Room.due("the constructor's modifiers", DavRoom.class.getDeclaredConstructors()[0].getModifiers(), Modifier.PUBLIC);
        Room.due("what is seen", seen().toString(), new TreeSet<>(List.of(
                "int REFUSED", "int NONE", "int FULL",
                "int feed[int, int, int, int, int]", "int end[int]", "int request[]", "int octet[int]", "int tick[int]",
                "int keep[]", "int crash[]", "int look[int]", "int lock[int, int]", "int count[int]")).toString());
        Room.finish();
    }

    private static TreeSet<String> seen() {
        TreeSet<String> seen = new TreeSet<>();
        for (Method one : DavRoom.class.getDeclaredMethods()) {
            if (isSeen(one)) {
                seen.add(one.getReturnType() + " " + one.getName() + Arrays.toString(one.getParameterTypes()));
            }
        }
        for (Field one : DavRoom.class.getDeclaredFields()) {
            if (isSeen(one)) {
                seen.add(one.getType() + " " + one.getName());
            }
        }
        return seen;
    }

    private static boolean isSeen(Member one) {
        return !Modifier.isPrivate(one.getModifiers()) && !one.isSynthetic();
    }
}
