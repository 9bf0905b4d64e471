import java.lang.reflect.Constructor;
import java.lang.reflect.Field;
import java.lang.reflect.Method;
import java.lang.reflect.Modifier;
import java.util.Arrays;
import java.util.TreeSet;

/** The public face: exactly the document's constants, constructor and methods, and nothing else in sight. */
public final class FaceTests {
    private static final String[] METHODS = {
        "int append(int,int,int,int,int)", "int load(int)", "int errorOffset()", "int time()", "int count(int)",
        "int party(int,int)", "int call(int,int)", "int leg(int,int)", "int pending(int,int)",
        "int repetition(int,int)", "int total(int)", "int settlesIn(int)", "int answeredBy(int)", "int pass(int)",
        "int dial(int,int)", "int transfer(int,int)", "int hangUp(int)", "int offer(int,int)",
        "int setParty(int,int,int)", "int undo()", "long checksum()"};
    private static final String[] FIELDS = {"SYNTAX_ERROR", "OUT_OF_RANGE", "TOO_MANY", "TOO_DEEP"};

    public static void main(String[] args) {
        Exam.same("modifiers of the class", CallForks.class.getModifiers(), Modifier.PUBLIC | Modifier.FINAL);
        TreeSet<String> seen = new TreeSet<>();
        TreeSet<String> names = new TreeSet<>();
        for (Method method : CallForks.class.getDeclaredMethods()) {
            if (!Modifier.isPrivate(method.getModifiers()) && !method.isSynthetic()) {
                seen.add(signature(method));
                names.add(method.getName());
            }
        }
        same("methods", seen, METHODS);
        for (Method method : CallForks.class.getDeclaredMethods()) {
            if (Modifier.isPrivate(method.getModifiers())) {
                Exam.same("private " + method.getName(), names.contains(method.getName()) ? 1 : 0, 0);
            }
        }
        seen.clear();
        for (Field field : CallForks.class.getDeclaredFields()) {
            if (!Modifier.isPrivate(field.getModifiers()) && !field.isSynthetic()) {
                seen.add(field.getName());
                Exam.same("modifiers of " + field.getName(), field.getModifiers(),
                        Modifier.PUBLIC | Modifier.STATIC | Modifier.FINAL);
            }
        }
        same("fields", seen, FIELDS);
        Constructor<?>[] constructors = CallForks.class.getDeclaredConstructors();
        Exam.same("constructors", constructors.length, 1);
        Exam.same("modifiers of the constructor", constructors[0].getModifiers(), Modifier.PUBLIC);
        Exam.same("parameters of the constructor", constructors[0].getParameterCount(), 0);
        Exam.same("SYNTAX_ERROR", CallForks.SYNTAX_ERROR, -2);
        Exam.same("OUT_OF_RANGE", CallForks.OUT_OF_RANGE, -3);
        Exam.same("TOO_MANY", CallForks.TOO_MANY, -4);
        Exam.same("TOO_DEEP", CallForks.TOO_DEEP, -5);
        Exam.finish();
    }

    private static String signature(Method method) {
        StringBuilder parameters = new StringBuilder();
        for (Class<?> type : method.getParameterTypes()) {
            parameters.append(parameters.length() == 0 ? "" : ",").append(type);
        }
        boolean plain = method.getModifiers() == Modifier.PUBLIC;
        return (plain ? "" : "odd ") + method.getReturnType() + " " + method.getName() + "(" + parameters + ")";
    }

    private static void same(String what, TreeSet<String> seen, String[] due) {
        TreeSet<String> wanted = new TreeSet<>(Arrays.asList(due));
        Exam.same(what + " " + seen, seen.equals(wanted) ? 1 : 0, 1);
    }
}
