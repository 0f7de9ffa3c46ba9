import java.lang.reflect.Constructor;
import java.lang.reflect.Field;
import java.lang.reflect.Method;
import java.lang.reflect.Modifier;
import java.util.ArrayList;
import java.util.List;
import java.util.TreeSet;

/** The public face of the document, and the rules of LANGUAGE.md on members. */
public final class FaceTest {
    private static final Check CHECK = new Check();

    private static final String[] FACE = {
        "int punch(int,int,int) I A S", "int close(int) I S", "int renew(int) I", "int copy(int,int) I A",
        "int wear(int,int,int) I S", "int lose(int,int,int) I S", "int turn(int,int) I A", "int view(int) I",
        "boolean sees(int,int,int) I", "int raw(int,int) I", "int kind(int,int,int) I", "int told(int,int,int) I",
        "int count(int,int) I", "int read(int,int) I", "int value(int,int) I", "int untold(int) I",
        "int disagreements(int) I", "int disagreement(int,int) I", "double soundShare(int) I",
        "int untoldIf(int,int,int) I", "int worst(int) I", "int difference(int,int) I", "int append(int) A S",
        "int clearText()", "int firstError()", "int run() A", "int undo() S", "int savedStates()", "long digest()"
    };

    public static void main(String[] args) {
        publicMethods();
        otherMembers();
        CHECK.end();
    }

    private static String signature(Method method) {
        StringBuilder text = new StringBuilder();
        text.append(method.getReturnType().getName()).append(' ').append(method.getName()).append('(');
        Class<?>[] types = method.getParameterTypes();
        for (int i = 0; i < types.length; i++) {
            text.append(i == 0 ? "" : ",").append(types[i].getName());
        }
        text.append(')');
        for (Class<?> thrown : method.getExceptionTypes()) {
            String name = thrown.getSimpleName();
            text.append(name.equals(Check.INDEX) ? " I"
                    : name.equals(Check.ARGUMENT) ? " A" : name.equals(Check.STATE) ? " S" : name);
        }
        return text.toString();
    }

    private static void publicMethods() {
        List<String> found = new ArrayList<>();
        for (Method method : MirrorCards.class.getDeclaredMethods()) {
            if (Modifier.isPublic(method.getModifiers())) {
                found.add(signature(method));
                CHECK.isFalse(method + " is static", Modifier.isStatic(method.getModifiers()));
            }
        }
        CHECK.same("public methods", new TreeSet<>(List.of(FACE)).toString(), new TreeSet<>(found).toString());
    }

    private static void otherMembers() {
        CHECK.isTrue("public", Modifier.isPublic(MirrorCards.class.getModifiers()));
        CHECK.isTrue("final", Modifier.isFinal(MirrorCards.class.getModifiers()));
        TreeSet<String> names = new TreeSet<>();
        for (String line : FACE) {
            names.add(line.substring(line.indexOf(' ') + 1, line.indexOf('(')));
        }
        List<Class<?>> classes = new ArrayList<>(List.of(MirrorCards.class.getDeclaredClasses()));
        for (Class<?> inside : classes) {
            CHECK.isTrue(inside + " is static", Modifier.isStatic(inside.getModifiers()));
        }
        classes.add(MirrorCards.class);
        for (Class<?> each : classes) {
            for (Method method : each.getDeclaredMethods()) {
                boolean isPublic = Modifier.isPublic(method.getModifiers());
                CHECK.isTrue(method + " is public or private", isPublic || Modifier.isPrivate(method.getModifiers()));
                CHECK.isTrue(method + " has a name of its own", isPublic || !names.contains(method.getName()));
            }
            for (Field field : each.getDeclaredFields()) {
                int is = field.getModifiers();
                CHECK.isTrue(field + " is private", Modifier.isPrivate(is) || field.getName().equals("NONE"));
                CHECK.isTrue(field + " is final if static", Modifier.isFinal(is) || !Modifier.isStatic(is));
            }
        }
        Constructor<?>[] constructors = MirrorCards.class.getDeclaredConstructors();
        CHECK.same("constructors", 1, constructors.length);
        CHECK.same("parameters of the constructor", 0, constructors[0].getParameterCount());
    }
}
