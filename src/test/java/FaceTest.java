import java.lang.reflect.Constructor;
import java.lang.reflect.Field;
import java.lang.reflect.Member;
import java.lang.reflect.Method;
import java.lang.reflect.Modifier;
import java.util.ArrayList;
import java.util.HashSet;
import java.util.List;
import java.util.Set;
import java.util.TreeSet;

/** The public face, and rule 1 of LANGUAGE.md. */
public final class FaceTest {
    private static final String I = "IllegalArgumentException";
    private static final String S = "IllegalStateException";
    private static final String A = "ArithmeticException";

    public static void main(String[] args) {
        publicMethodsAreThoseOfTheDocument();
        nothingElseCanBeSeen();
        classesInsideAreStaticAndHidden();
        Check.close();
    }

    private static void publicMethodsAreThoseOfTheDocument() {
        Set<String> due = new TreeSet<>(List.of(
            "int encode(int) " + I, "int decode(int) " + I + " " + A, "int mended()",
            "void write(int,long) " + I + " " + S, "long read(int) " + I + " " + S + " " + A,
            "boolean trim(int) " + I, "void spoil(int,int,int,int) " + I, "int flash(int,int,int) " + I,
            "int mount()", "int clean() " + S, "int place(int) " + I, "int state(int,int) " + I,
            "int wear(int) " + I, "int serial()"));
        Set<String> got = new TreeSet<>();
        for (Method method : FlashStore.class.getDeclaredMethods()) {
            if (!Modifier.isPrivate(method.getModifiers())) {
                got.add(faceOf(method));
            }
        }
        Check.same("the methods", got.toString(), due.toString());
        Check.same("final", Modifier.isFinal(FlashStore.class.getModifiers()), true);
        Check.same("public", Modifier.isPublic(FlashStore.class.getModifiers()), true);
    }

    private static String faceOf(Method method) {
        List<String> parameters = new ArrayList<>();
        for (Class<?> type : method.getParameterTypes()) {
            parameters.add(type.getName());
        }
        StringBuilder text = new StringBuilder(method.getReturnType().getName());
        text.append(' ').append(method.getName()).append('(').append(String.join(",", parameters)).append(')');
        for (Class<?> thrown : method.getExceptionTypes()) {
            text.append(' ').append(thrown.getSimpleName());
        }
        return text.toString();
    }

    private static void nothingElseCanBeSeen() {
        Constructor<?>[] constructors = FlashStore.class.getDeclaredConstructors();
        Check.same("constructors", constructors.length, 1);
        Check.same("a public constructor", Modifier.isPublic(constructors[0].getModifiers()), true);
        Check.same("its parameters", constructors[0].getParameterCount(), 0);
        Set<String> publicNames = new HashSet<>();
        for (Method method : FlashStore.class.getMethods()) {
            publicNames.add(method.getName());
        }
        for (Method method : FlashStore.class.getDeclaredMethods()) {
            boolean bearsPublicName = isPrivate(method) && publicNames.contains(method.getName());
            Check.same("private " + method.getName() + " bears a public name", bearsPublicName, false);
        }
        for (Field field : FlashStore.class.getDeclaredFields()) {
            Check.same("private " + field.getName(), isPrivate(field), true);
        }
    }

    private static boolean isPrivate(Member member) {
        return Modifier.isPrivate(member.getModifiers());
    }

    private static void classesInsideAreStaticAndHidden() {
        for (Class<?> inside : FlashStore.class.getDeclaredClasses()) {
            int modifiers = inside.getModifiers();
            Check.same("static " + inside.getName(), Modifier.isStatic(modifiers), true);
            Check.same("public " + inside.getName(), Modifier.isPublic(modifiers), false);
            Check.same("protected " + inside.getName(), Modifier.isProtected(modifiers), false);
        }
    }
}
