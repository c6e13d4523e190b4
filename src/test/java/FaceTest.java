import java.lang.reflect.Constructor;
import java.lang.reflect.Field;
import java.lang.reflect.Method;
import java.lang.reflect.Modifier;
import java.util.HashSet;
import java.util.List;
import java.util.Set;
import java.util.TreeSet;

/** The class has the document's public face, and nothing else that can be seen. */
public final class FaceTest {
    private static final Set<String> FACE = new TreeSet<>(List.of(
        "join(int,int)", "leave(int)", "next()", "turns(int)", "change(int,int)", "ranOf(int)",
        "passOf(int)", "strideOf(int)", "clients()", "spread()", "order(int)"));
    private static final Due due = new Due("FaceTest");

    public static void main(String[] args) {
        classIsPublicAndFinal();
        methodsAreTheFace();
        constructorIsTheFace();
        fieldsAreHidden();
        due.end();
    }

    private static void classIsPublicAndFinal() {
        int modifiers = StrideHeap.class.getModifiers();
        due.holds("the class is public", Modifier.isPublic(modifiers));
        due.holds("the class is final", Modifier.isFinal(modifiers));
        due.holds("the class has no package", StrideHeap.class.getPackageName().isEmpty());
    }

    private static void methodsAreTheFace() {
        Set<String> seen = new TreeSet<>();
        Set<String> publicNames = new HashSet<>();
        Set<String> privateNames = new HashSet<>();
        for (Method method : StrideHeap.class.getDeclaredMethods()) {
            if (Modifier.isPrivate(method.getModifiers())) {
                privateNames.add(method.getName());
                continue;
            }
            seen.add(signature(method));
            publicNames.add(method.getName());
            due.holds(method + " is public", Modifier.isPublic(method.getModifiers()));
            due.holds(method + " is of the object", !Modifier.isStatic(method.getModifiers()));
            due.holds(method + " answers an int", method.getReturnType() == int.class);
        }
        due.holds("the methods " + seen + " are " + FACE, seen.equals(FACE));
        privateNames.retainAll(publicNames);
        due.holds("no private method bears a public name: " + privateNames, privateNames.isEmpty());
    }

    private static String signature(Method method) {
        StringBuilder text = new StringBuilder(method.getName()).append('(');
        for (Class<?> type : method.getParameterTypes()) {
            text.append(text.charAt(text.length() - 1) == '(' ? "" : ",").append(type.getName());
        }
        return text.append(')').toString();
    }

    private static void constructorIsTheFace() {
        Constructor<?>[] all = StrideHeap.class.getDeclaredConstructors();
        due.is("the number of constructors", all.length, 1);
        due.holds("it is public", Modifier.isPublic(all[0].getModifiers()));
        due.holds("it takes two ints",
            List.of(all[0].getParameterTypes()).equals(List.of(int.class, int.class)));
    }

    private static void fieldsAreHidden() {
        for (Field field : StrideHeap.class.getDeclaredFields()) {
            int modifiers = field.getModifiers();
            due.holds(field + " is private", Modifier.isPrivate(modifiers));
            due.holds(field + " is final, if static",
                !Modifier.isStatic(modifiers) || Modifier.isFinal(modifiers));
        }
    }
}
