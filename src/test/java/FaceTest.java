import java.lang.reflect.Constructor;
import java.lang.reflect.Field;
import java.lang.reflect.Method;
import java.lang.reflect.Modifier;
import java.util.Arrays;
import java.util.TreeSet;

/** The class has the document's face and no other member that is not private. */
final class FaceTest {
    private static final String[] FACE = {
        "int record(int,int) IndexOutOfBoundsException,IllegalStateException",
        "int fill(int,int,int,int,int) IndexOutOfBoundsException,IllegalArgumentException,IllegalStateException",
        "int size(int) IndexOutOfBoundsException",
        "int ask(int,int,int,int) IndexOutOfBoundsException,IllegalArgumentException,IllegalStateException",
        "int letters() ",
        "int letter(int,int) IndexOutOfBoundsException,IllegalArgumentException",
        "int deliver(int) IndexOutOfBoundsException",
        "int lose(int) IndexOutOfBoundsException",
        "boolean twin(int) IndexOutOfBoundsException",
        "int run(int) IllegalArgumentException",
        "int resend(int) IndexOutOfBoundsException,IllegalStateException",
        "int takeOver(int,int) IndexOutOfBoundsException,IllegalStateException",
        "int crash(int) IndexOutOfBoundsException",
        "void restart(int) IndexOutOfBoundsException",
        "int state(int) IndexOutOfBoundsException",
        "long answer(int) IndexOutOfBoundsException,IllegalStateException",
        "int found(int,boolean) IndexOutOfBoundsException,IllegalStateException",
        "int about(int,int) IndexOutOfBoundsException,IllegalArgumentException",
        "int mark(int,int) IndexOutOfBoundsException",
        "int forget(int) IndexOutOfBoundsException",
    };

    private FaceTest() {
    }

    public static void main(String[] args) {
        checkClass();
        checkMethods();
        checkFields();
        Check.end();
    }

    private static void checkClass() {
        int modifiers = RankHouse.class.getModifiers();
        Check.due("public final class", 1, Modifier.isPublic(modifiers) && Modifier.isFinal(modifiers) ? 1 : 0);
        Constructor<?>[] constructors = RankHouse.class.getDeclaredConstructors();
        Check.due("how many constructors", 1, constructors.length);
        Check.due("the constructor", "public RankHouse()", constructors[0].toString());
    }

    private static void checkMethods() {
        TreeSet<String> face = new TreeSet<>();
        TreeSet<String> faceNames = new TreeSet<>();
        TreeSet<String> hiddenNames = new TreeSet<>();
        for (Method method : RankHouse.class.getDeclaredMethods()) {
            if (Modifier.isPrivate(method.getModifiers())) {
                hiddenNames.add(method.getName());
            } else {
                face.add(spell(method));
                faceNames.add(method.getName());
            }
        }
        Check.due("the face", new TreeSet<>(Arrays.asList(FACE)).toString(), face.toString());
        hiddenNames.retainAll(faceNames);
        Check.due("private methods with the name of a public one", "[]", hiddenNames.toString());
    }

    private static String spell(Method method) {
        StringBuilder text = new StringBuilder();
        text.append(method.getReturnType().getSimpleName()).append(' ').append(method.getName());
        text.append('(').append(names(method.getParameterTypes())).append(") ");
        return text.append(names(method.getExceptionTypes())).toString();
    }

    private static String names(Class<?>[] types) {
        StringBuilder text = new StringBuilder();
        for (Class<?> type : types) {
            text.append(text.length() == 0 ? "" : ",").append(type.getSimpleName());
        }
        return text.toString();
    }

    private static void checkFields() {
        for (Field field : RankHouse.class.getDeclaredFields()) {
            int modifiers = field.getModifiers();
            if (!Modifier.isPrivate(modifiers)) {
                Check.due("a field that is not private", "public static final int RankHouse.NONE", field.toString());
            }
            if (Modifier.isStatic(modifiers)) {
                Check.due(field.getName() + " is final", 1, Modifier.isFinal(modifiers) ? 1 : 0);
            }
        }
        Check.due("NONE", -1, RankHouse.NONE);
    }
}
