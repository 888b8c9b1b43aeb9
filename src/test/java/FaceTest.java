import java.lang.reflect.Constructor;
import java.lang.reflect.Field;
import java.lang.reflect.Member;
import java.lang.reflect.Method;
import java.lang.reflect.Modifier;
import java.util.ArrayList;
import java.util.Arrays;
import java.util.Collections;
import java.util.List;
import java.util.stream.Collectors;

/** The face is the document's, with nothing more (LANGUAGE.md, rules 1 and 5), and the constants. */
public final class FaceTest {
    private static final String INDEX = " throws IndexOutOfBoundsException";
    private static final String INDEX_ARGUMENT = INDEX + ", IllegalArgumentException";
    private static final String INDEX_ARGUMENT_STATE = INDEX_ARGUMENT + ", IllegalStateException";
    private static final String INDEX_STATE = INDEX + ", IllegalStateException";

    private static final String[] FACE = {
        "char written(int, int, int)" + INDEX, "int client(int, int)" + INDEX, "int invoice(int, int)" + INDEX_ARGUMENT,
        "int length(int, int)" + INDEX, "int line(int, int, int)" + INDEX_ARGUMENT_STATE, "int make(int)" + INDEX_STATE,
        "int note(int, int)" + INDEX_ARGUMENT, "int notes()", "int owed(int)" + INDEX,
        "int pass(int) throws IllegalArgumentException", "int rate(int, int, int, int)" + INDEX_ARGUMENT_STATE,
        "int round(int, int)" + INDEX_ARGUMENT, "int settle(int)" + INDEX, "int strike(int)" + INDEX,
        "int taxAnew(int)" + INDEX, "int telling(int, int, int)" + INDEX_ARGUMENT, "int template(int)" + INDEX_STATE,
        "int type(long) throws IllegalArgumentException, IllegalStateException", "int used(int, int)" + INDEX,
    };

    public static void main(String[] args) {
        List<String> methods = new ArrayList<>();
        List<String> names = new ArrayList<>();
        for (Method method : InvoiceSmith.class.getDeclaredMethods()) {
            if (Modifier.isPublic(method.getModifiers())) {
                methods.add(words(method));
                names.add(method.getName());
            }
        }
        Collections.sort(methods);
        Checks.is("public methods", methods.toString(), Arrays.toString(FACE));
        Checks.is("constructors", Arrays.toString(InvoiceSmith.class.getConstructors()), "[public InvoiceSmith()]");
        Checks.is("class", Modifier.toString(InvoiceSmith.class.getModifiers()), "public final");

        List<String> fields = new ArrayList<>();
        for (Field field : InvoiceSmith.class.getDeclaredFields()) {
            if (Modifier.isPublic(field.getModifiers())) {
                fields.add(field.getName());
            }
        }
        Collections.sort(fields);
        Checks.is("public constants", fields.toString(), "[BY_ALL, BY_KIND, BY_LINE, NONE]");
        Checks.is("NONE", InvoiceSmith.NONE, -1);
        Checks.is("BY_LINE", InvoiceSmith.BY_LINE, 0);
        Checks.is("BY_KIND", InvoiceSmith.BY_KIND, 1);
        Checks.is("BY_ALL", InvoiceSmith.BY_ALL, 2);

        checkHidden(InvoiceSmith.class, names);
        for (Class<?> inside : InvoiceSmith.class.getDeclaredClasses()) {
            checkHidden(inside, names);
        }
        Checks.end("FaceTest");
    }

    private static String words(Method method) {
        String types = Arrays.toString(method.getParameterTypes());
        String thrown = Arrays.stream(method.getExceptionTypes()).map(Class::getSimpleName)
                .collect(Collectors.joining(", "));
        return method.getReturnType() + " " + method.getName() + "(" + types.substring(1, types.length() - 1) + ")"
                + (thrown.isEmpty() ? "" : " throws " + thrown);
    }

    private static void checkHidden(Class<?> owner, List<String> publicNames) {
        for (Method method : owner.getDeclaredMethods()) {
            if (method.isSynthetic()) {
                continue;
            }
            boolean ofFace = owner == InvoiceSmith.class && Modifier.isPublic(method.getModifiers());
            boolean hidden = Modifier.isPrivate(method.getModifiers()) && !publicNames.contains(method.getName());
            Checks.is(owner.getSimpleName() + "." + method.getName() + " is hidden", ofFace || hidden ? 1 : 0, 1);
        }
        for (Field field : owner.getDeclaredFields()) {
            boolean ofFace = owner == InvoiceSmith.class && Modifier.isPublic(field.getModifiers());
            Checks.is(field.getName() + " is hidden", ofFace || isPrivate(field) || field.isSynthetic() ? 1 : 0, 1);
            if (Modifier.isStatic(field.getModifiers())) {
                Checks.is(field.getName() + " is final", Modifier.isFinal(field.getModifiers()) ? 1 : 0, 1);
            }
        }
        for (Constructor<?> constructor : owner.getDeclaredConstructors()) {
            boolean ofFace = owner == InvoiceSmith.class;
            Checks.is(owner.getSimpleName() + "'s constructor is in its place",
                    ofFace == Modifier.isPublic(constructor.getModifiers()) ? 1 : 0, 1);
        }
    }

    private static boolean isPrivate(Member member) {
        return Modifier.isPrivate(member.getModifiers());
    }
}
