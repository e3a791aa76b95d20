import java.lang.reflect.Constructor;
import java.lang.reflect.Field;
import java.lang.reflect.Member;
import java.lang.reflect.Method;
import java.lang.reflect.Modifier;
import java.util.ArrayList;
import java.util.Arrays;
import java.util.Collections;
import java.util.List;

/** The public face, and rule 1 of LANGUAGE.md: nothing else can be seen from outside. */
public final class FaceTest {
    public static void main(String[] args) {
        Bench.due("modifiers", ErrorNames.class.getModifiers(), Modifier.PUBLIC | Modifier.FINAL);
        Bench.due("NONE", ErrorNames.NONE, -1);
        List<String> seen = new ArrayList<>();
        List<String> hidden = new ArrayList<>();
        for (Field field : ErrorNames.class.getDeclaredFields()) {
            note(field, field.getType().getSimpleName() + " " + field.getName(), seen, hidden);
        }
        for (Constructor<?> made : ErrorNames.class.getDeclaredConstructors()) {
            note(made, "new/" + made.getParameterCount(), seen, hidden);
        }
        for (Method method : ErrorNames.class.getDeclaredMethods()) {
            String thrown = method.getExceptionTypes().length == 0 ? "" : " throws "
                + method.getExceptionTypes()[0].getSimpleName();
            note(method, method.getReturnType() + " " + method.getName() + "/" + method.getParameterCount() + thrown,
                seen, hidden);
        }
        Collections.sort(seen);
        Bench.due("the face", seen, Arrays.asList(
            "int NONE", "int clear/1", "int drop/0", "int forget/0",
            "int handler/1 throws IndexOutOfBoundsException", "int interrupt/0",
            "int kept/2 throws IndexOutOfBoundsException", "int named/2 throws IndexOutOfBoundsException",
            "int push/2", "int record/1 throws IndexOutOfBoundsException", "int run/2", "int size/0", "int token/3",
            "int value/2 throws IndexOutOfBoundsException", "new/0"));
        Bench.due("neither public nor private", hidden, Collections.emptyList());
        Bench.end("FaceTest");
    }

    private static void note(Member member, String text, List<String> seen, List<String> hidden) {
        if (member.isSynthetic()) {
            return;
        }
        if (Modifier.isPublic(member.getModifiers())) {
            seen.add(text);
        } else if (!Modifier.isPrivate(member.getModifiers())) {
            hidden.add(text);
        }
    }
}
