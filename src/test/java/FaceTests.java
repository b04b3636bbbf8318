import java.lang.reflect.Constructor;
import java.lang.reflect.Field;
import java.lang.reflect.Method;
import java.lang.reflect.Modifier;
import java.util.Set;
import java.util.TreeSet;

/** The class shows the document's face and nothing else (rule 1 of LANGUAGE.md). */
final class FaceTests {
    private static final Set<String> FACE = Set.of(
            "int buy(int, int)", "int buyLacking()", "int spill(int, int, int)", "int clean(int)",
            "int set(int, int)", "int letter(int, int)", "int inBox(int, int)", "int value(int)",
            "int setLine(int)", "int correct(int)", "int distribute(int)", "int pie(int)", "int sortHeap(int)",
            "int forme(int, int)", "int places(int, int)", "int place(int, int, int, int)",
            "int proof(int, int)", "int inHeap(int)", "int errorsIfSet()", "int turnedIfSet()", "int copies()",
            "int bestToDistribute()", "double order()", "int append(int)", "int clearText()", "int undo()",
            "long digest()");

    private FaceTests() {
    }

    static void run() {
        int modifiers = SortsCase.class.getModifiers();
        Check.that("the class is public and final", Modifier.isPublic(modifiers) && Modifier.isFinal(modifiers));
        methods();
        fields();
        Constructor<?>[] constructors = SortsCase.class.getDeclaredConstructors();
        Check.due("constructors", constructors.length, 1);
        Check.that("the constructor is public", Modifier.isPublic(constructors[0].getModifiers()));
    }

    private static void methods() {
        Set<String> shown = new TreeSet<>();
        Set<String> hiddenNames = new TreeSet<>();
        for (Method method : SortsCase.class.getDeclaredMethods()) {
            if (Modifier.isPrivate(method.getModifiers())) {
                hiddenNames.add(method.getName());
            } else {
                shown.add(signature(method));
                Check.that(method + " is public", Modifier.isPublic(method.getModifiers()));
            }
        }
        Check.that("the public methods are those of the document: " + shown, shown.equals(FACE));
        for (String face : FACE) {
            String name = face.substring(face.indexOf(' ') + 1, face.indexOf('('));
            Check.that("no private method is named " + name, !hiddenNames.contains(name));
        }
    }

    private static String signature(Method method) {
        StringBuilder parameters = new StringBuilder();
        for (Class<?> type : method.getParameterTypes()) {
            parameters.append(parameters.length() == 0 ? "" : ", ").append(type.getName());
        }
        return method.getReturnType().getName() + " " + method.getName() + "(" + parameters + ")";
    }

    private static void fields() {
        for (Field field : SortsCase.class.getDeclaredFields()) {
            boolean constant = field.getName().equals("NONE");
            Check.that(field + " is shown only if it is NONE",
                    constant ? Modifier.isPublic(field.getModifiers()) : Modifier.isPrivate(field.getModifiers()));
            Check.that(field + " is final", Modifier.isFinal(field.getModifiers()));
        }
    }
}
