import java.lang.reflect.Constructor;
import java.lang.reflect.Field;
import java.lang.reflect.Method;
import java.lang.reflect.Modifier;
import java.util.ArrayList;
import java.util.List;

/** The face of the document: all of it, and nothing else that is not private. */
final class FaceTest {
    private static final Check CHECK = new Check("FaceTest");
    private static final String[] DUE = {
        "int append(int) IllegalArgumentException IllegalStateException",
        "int bestShift(int) IndexOutOfBoundsException",
        "int charAt(int) IllegalArgumentException",
        "int clearBuffer()",
        "int count(int) IllegalArgumentException",
        "int firstError()",
        "int goBack(int) IllegalArgumentException IllegalStateException",
        "double heard()",
        "int ifSet(int,int,int) IndexOutOfBoundsException IllegalArgumentException",
        "int keep(int) IllegalArgumentException",
        "int leastDucking()",
        "int loud(boolean,int,int) IndexOutOfBoundsException IllegalArgumentException",
        "int loudestQuiet(int) IndexOutOfBoundsException",
        "int noise(int,int,int,boolean) IllegalArgumentException IllegalStateException",
        "int noiseOf(int,int) IndexOutOfBoundsException IllegalArgumentException",
        "int read() IllegalArgumentException",
        "int remove(boolean,int) IndexOutOfBoundsException",
        "int second(int,int) IndexOutOfBoundsException IllegalArgumentException",
        "int set(int,int) IndexOutOfBoundsException IllegalArgumentException",
        "int shift(boolean,int,int) IndexOutOfBoundsException IllegalArgumentException",
        "int total(int) IllegalArgumentException",
        "int undo() IllegalStateException",
        "int word(int,int,int) IllegalArgumentException IllegalStateException",
        "int wordOf(int,int) IndexOutOfBoundsException IllegalArgumentException",
        "int write()"};

    public static void main(String[] args) {
        List<String> told = new ArrayList<>();
        List<String> names = new ArrayList<>();
        for (Method method : FoleyMixer.class.getDeclaredMethods()) {
            if (Modifier.isPublic(method.getModifiers())) {
                told.add(face(method));
                names.add(method.getName());
            }
        }
        List<String> due = new ArrayList<>(List.of(DUE));
        due.sort(null);
        told.sort(null);
        CHECK.due("the methods", told, due);
        for (Method method : FoleyMixer.class.getDeclaredMethods()) {
            if (!Modifier.isPublic(method.getModifiers())) {
                CHECK.due(method + " is private", Modifier.isPrivate(method.getModifiers()), true);
                CHECK.due(method + " has a name of its own", names.contains(method.getName()), false);
            }
        }
        fields();
        Constructor<?>[] constructors = FoleyMixer.class.getDeclaredConstructors();
        CHECK.due("one constructor", constructors.length, 1);
        CHECK.due("it", constructors[0].toString(), "public FoleyMixer()");
        CHECK.due("the class", Modifier.toString(FoleyMixer.class.getModifiers()), "public final");
        for (Class<?> inside : FoleyMixer.class.getDeclaredClasses()) {
            CHECK.due(inside + " is private", Modifier.isPrivate(inside.getModifiers()), true);
            CHECK.due(inside + " is static", Modifier.isStatic(inside.getModifiers()), true);
        }
        CHECK.end();
    }

    private static String face(Method method) {
        StringBuilder text = new StringBuilder(method.getReturnType() + " " + method.getName() + "(");
        for (Class<?> type : method.getParameterTypes()) {
            text.append(text.charAt(text.length() - 1) == '(' ? "" : ",").append(type);
        }
        text.append(')');
        for (Class<?> exception : method.getExceptionTypes()) {
            text.append(' ').append(exception.getSimpleName());
        }
        return text.toString();
    }

    private static void fields() {
        for (Field field : FoleyMixer.class.getDeclaredFields()) {
            String due = field.getName().equals("NONE") ? "public" : "private";
            CHECK.due(field.toString(), Modifier.toString(field.getModifiers()).split(" ")[0], due);
        }
        CHECK.due("NONE", FoleyMixer.NONE, -1);
    }
}
