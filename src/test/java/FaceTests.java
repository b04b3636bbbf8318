import java.lang.reflect.Constructor;
import java.lang.reflect.Field;
import java.lang.reflect.Method;
import java.lang.reflect.Modifier;
import java.util.Set;
import java.util.TreeSet;

/** The class shows the document's face and nothing else (rule 1 of LANGUAGE.md). */
final class FaceTests {
    /** Index, Argument and State stand for the three exceptions of the document. */
    private static final Set<String> FACE = Set.of(
            "int buy(int, int) throws Index, Argument, State",
            "int buyLacking() throws State",
            "int spill(int, int, int) throws Index, Argument, State",
            "int clean(int) throws Index",
            "int set(int, int) throws Argument",
            "int letter(int, int) throws Index, Argument",
            "int inBox(int, int) throws Index",
            "int value(int) throws Argument",
            "int setLine(int) throws Index, State",
            "int correct(int) throws Index",
            "int distribute(int) throws Index",
            "int pie(int) throws Index",
            "int sortHeap(int) throws Argument",
            "int forme(int, int) throws Index, Argument",
            "int places(int, int) throws Index",
            "int place(int, int, int, int) throws Index, Argument",
            "int proof(int, int) throws Index",
            "int inHeap(int) throws Index",
            "int errorsIfSet()",
            "int turnedIfSet()",
            "int copies()",
            "int bestToDistribute()",
            "double order()",
            "int append(int) throws Argument, State",
            "int clearText()",
            "int undo() throws State",
            "long digest()");

    private FaceTests() {
    }

    static void run() {
        int modifiers = SortsCase.class.getModifiers();
        Check.that("the class is public and final", Modifier.isPublic(modifiers) && Modifier.isFinal(modifiers));
        methods();
        fields();
        Constructor<?>[] constructors = SortsCase.class.getDeclaredConstructors();
        Check.due("constructors", constructors.length, 1);
        Check.that("the constructor is public", Modifier.isPublic(constructors[0].getModifiers()));
        classesInside();
    }

    private static void classesInside() {
        for (Class<?> inside : SortsCase.class.getDeclaredClasses()) {
            int modifiers = inside.getModifiers();
            Check.that(inside + " is static", Modifier.isStatic(modifiers));
            Check.that(inside + " is not shown", !Modifier.isPublic(modifiers) && !Modifier.isProtected(modifiers));
        }
    }

    private static void methods() {
        Set<String> shown = new TreeSet<>();
        Set<String> hiddenNames = new TreeSet<>();
        for (Method method : SortsCase.class.getDeclaredMethods()) {
            if (Modifier.isPrivate(method.getModifiers())) {
                hiddenNames.add(method.getName());
            } else {
                shown.add(signature(method));
                Check.that(method + " is public", Modifier.isPublic(method.getModifiers()));
            }
        }
        Check.that("the public methods are those of the document: " + shown, shown.equals(FACE));
        for (String face : FACE) {
            String name = face.substring(face.indexOf(' ') + 1, face.indexOf('('));
            Check.that("no private method is named " + name, !hiddenNames.contains(name));
        }
    }

    private static String signature(Method method) {
        StringBuilder parameters = new StringBuilder();
        for (Class<?> type : method.getParameterTypes()) {
            parameters.append(parameters.length() == 0 ? "" : ", ").append(type.getName());
        }
        return method.getReturnType().getName() + " " + method.getName() + "(" + parameters + ")" + told(method);
    }

    /** The exceptions that the method tells, in their order. */
    private static String told(Method method) {
        StringBuilder told = new StringBuilder();
        for (Class<?> type : method.getExceptionTypes()) {
            String name = type == IndexOutOfBoundsException.class ? "Index"
                    : type == IllegalArgumentException.class ? "Argument"
                    : type == IllegalStateException.class ? "State" : type.getName();
            told.append(told.length() == 0 ? " throws " : ", ").append(name);
        }
        return told.toString();
    }

    private static void fields() {
        for (Field field : SortsCase.class.getDeclaredFields()) {
            boolean constant = field.getName().equals("NONE");
            Check.that(field + " is shown only if it is NONE",
                    constant ? Modifier.isPublic(field.getModifiers()) : Modifier.isPrivate(field.getModifiers()));
            Check.that(field + " is final", Modifier.isFinal(field.getModifiers()));
        }
    }
}
