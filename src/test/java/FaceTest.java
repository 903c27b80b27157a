import java.lang.reflect.Constructor;
import java.lang.reflect.Field;
import java.lang.reflect.Method;
import java.lang.reflect.Modifier;
import java.util.Set;
import java.util.TreeSet;

/** The class shows the document's face and nothing else. */
final class FaceTest {
    private static final Due due = new Due("FaceTest");
    private static final String[] METHODS = {
        "sew()", "burn(int)", "cut(int,int,int)", "undoSeam(int,int)", "turn(int,int)", "exchange(int,int)", "join(int,int)",
        "scroll(int,int)", "patch(int,int)", "letter(int,int,int)", "reading(int,int,int)", "find(int,int)", "shared(int,int)",
        "compare(int,int)", "count(int)", "ifCut(int,int,int)", "bestCut(int,int)", "put(long)", "wipe()", "fault()", "undo()",
        "save(int)", "restore(int)"};

    public static void main(String[] arguments) {
        due.is("NO_SUCH", SeamReadings.NO_SUCH, -1);
        due.is("BAD_VALUE", SeamReadings.BAD_VALUE, -2);
        due.is("BAD_TEXT", SeamReadings.BAD_TEXT, -3);
        due.is("TOO_MANY", SeamReadings.TOO_MANY, -4);
        due.is("NOT_POSSIBLE", SeamReadings.NOT_POSSIBLE, -5);
        due.is("NONE", SeamReadings.NONE, -6);
        due.is("public and final", SeamReadings.class.getModifiers(), Modifier.PUBLIC | Modifier.FINAL);
        due.is("constructors", SeamReadings.class.getDeclaredConstructors().length, 1);
        for (Constructor<?> constructor : SeamReadings.class.getDeclaredConstructors()) {
            due.is("the constructor's modifiers", constructor.getModifiers(), Modifier.PUBLIC);
            due.is("the constructor's parameters", constructor.getParameterCount(), 0);
        }
        methods();
        fields();
        for (Class<?> inside : SeamReadings.class.getDeclaredClasses()) {
            due.is(inside + " is static", inside.getModifiers() & Modifier.STATIC, Modifier.STATIC);
            due.is(inside + " is not open", inside.getModifiers() & (Modifier.PUBLIC | Modifier.PROTECTED), 0);
        }
        due.end();
    }

    private static String face(Method method) {
        StringBuilder text = new StringBuilder(method.getName()).append('(');
        for (Class<?> type : method.getParameterTypes()) {
            text.append(text.charAt(text.length() - 1) == '(' ? "" : ",").append(type.getName());
        }
        return text.append(')').toString();
    }

    private static void methods() {
        Set<String> shown = new TreeSet<>();
        for (Method method : SeamReadings.class.getDeclaredMethods()) {
            if (!Modifier.isPrivate(method.getModifiers())) {
                shown.add(face(method));
                due.is(method + " is public alone", method.getModifiers(), Modifier.PUBLIC);
                due.text(method + " returns", method.getReturnType().getName(), "int");
            }
        }
        due.text("methods", shown.toString(), new TreeSet<>(Set.of(METHODS)).toString());
    }

    private static void fields() {
        Set<String> shown = new TreeSet<>();
        for (Field field : SeamReadings.class.getDeclaredFields()) {
            if (!Modifier.isPrivate(field.getModifiers())) {
                shown.add(field.getName());
                due.is(field + " is a constant", field.getModifiers(), Modifier.PUBLIC | Modifier.STATIC | Modifier.FINAL);
            }
        }
        due.text("constants", shown.toString(), "[BAD_TEXT, BAD_VALUE, NONE, NOT_POSSIBLE, NO_SUCH, TOO_MANY]");
    }
}
