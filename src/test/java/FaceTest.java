import java.lang.reflect.Constructor;
import java.lang.reflect.Field;
import java.lang.reflect.Method;
import java.lang.reflect.Modifier;
import java.util.Set;
import java.util.TreeSet;

// The public face: just what the document lists, and no other member that others can see.
public final class FaceTest {
    private static final String[] FACE = {
        "int hold(int,int,int) throws IllegalArgumentException IllegalStateException",
        "int acquire(int,int,int,int) throws IllegalArgumentException IllegalStateException",
        "int held(int,int) throws IllegalArgumentException",
        "long shareNumerator(int) throws IllegalArgumentException",
        "long shareDenominator(int) throws IllegalArgumentException",
        "int shareByRounds(int,int) throws IllegalArgumentException",
        "int group()",
        "int goodwill(int) throws IllegalArgumentException",
        "void setBooks(int,int,int,int,int) throws IllegalArgumentException",
        "void setRates(int,int,int,int) throws IllegalArgumentException",
        "int netValue(int) throws IllegalArgumentException",
        "int translatedEquity(int) throws IllegalArgumentException",
        "int translatedResult(int) throws IllegalArgumentException",
        "int reserve(int) throws IllegalArgumentException",
        "int claim(int,int,int) throws IllegalArgumentException",
        "int admit(int,int,int) throws IllegalArgumentException",
        "int difference(int,int) throws IllegalArgumentException",
        "int eliminated()",
        "int assets()",
        "int debts()",
        "int minority(int) throws IllegalArgumentException",
        "int equity()",
        "int result()",
        "int close() throws IllegalStateException",
        "int resultOf(int) throws IllegalArgumentException",
    };

    private final Check check;

    FaceTest(Check check) {
        this.check = check;
    }

    void run() {
        check.test("Face: 'public final class Groupbooks'", this::theClass);
        check.test("Face: the methods and what they throw", this::theMethods);
        check.test("Face: no other member that others can see", this::noOtherMember);
    }

    private void theClass() {
        int modifiers = Groupbooks.class.getModifiers();
        check.note(Modifier.isPublic(modifiers) && Modifier.isFinal(modifiers), "public final");
        Constructor<?>[] constructors = Groupbooks.class.getDeclaredConstructors();
        check.same("constructors", constructors.length, 1);
        check.same("arguments", constructors[0].getParameterCount(), 0);
        check.note(Modifier.isPublic(constructors[0].getModifiers()), "a public constructor");
    }

    private void theMethods() {
        Set<String> due = new TreeSet<>(Set.of(FACE));
        Set<String> got = new TreeSet<>();
        for (Method method : Groupbooks.class.getDeclaredMethods()) {
            if (Modifier.isPublic(method.getModifiers())) {
                got.add(textOf(method));
            }
        }
        check.note(got.equals(due), "the public methods are " + got);
    }

    private static String textOf(Method method) {
        StringBuilder text = new StringBuilder();
        text.append(method.getReturnType().getSimpleName()).append(' ').append(method.getName());
        String before = "(";
        for (Class<?> type : method.getParameterTypes()) {
            text.append(before).append(type.getSimpleName());
            before = ",";
        }
        text.append(method.getParameterCount() == 0 ? "()" : ")");
        before = " throws ";
        for (Class<?> type : method.getExceptionTypes()) {
            text.append(before).append(type.getSimpleName());
            before = " ";
        }
        return text.toString();
    }

    private void noOtherMember() {
        for (Method method : Groupbooks.class.getDeclaredMethods()) {
            int modifiers = method.getModifiers();
            check.note(method.isSynthetic() || Modifier.isPublic(modifiers)
                || Modifier.isPrivate(modifiers), method.getName() + " can be seen");
        }
        for (Field field : Groupbooks.class.getDeclaredFields()) {
            check.note(Modifier.isPrivate(field.getModifiers()), field.getName() + " can be seen");
        }
        for (Class<?> inside : Groupbooks.class.getDeclaredClasses()) {
            int modifiers = inside.getModifiers();
            check.note(!Modifier.isPublic(modifiers) && !Modifier.isProtected(modifiers)
                && Modifier.isStatic(modifiers), inside.getName());
        }
    }
}
