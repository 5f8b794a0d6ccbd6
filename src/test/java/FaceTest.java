import java.lang.reflect.Constructor;
import java.lang.reflect.Field;
import java.lang.reflect.Method;
import java.lang.reflect.Modifier;
import java.util.TreeSet;

/** The public face: the members that the document names with the exceptions that it names, and no others. */
final class FaceTest {
    private static final String INDEX = "IndexOutOfBoundsException";
    private static final String ARGUMENT = "IllegalArgumentException";
    private static final String STATE = "IllegalStateException";
    private static final String ELEMENT = "NoSuchElementException";

    private static final String[] FACE = {
        "int append(int,int,int,int,int)", "int parse(int) " + ARGUMENT, "int size(int) " + ARGUMENT,
        "int household(int,int) " + INDEX + " " + ARGUMENT, "int program(int,int) " + INDEX + " " + ARGUMENT,
        "int letter(boolean,int,int) " + INDEX, "long counted(int,int) " + INDEX + " " + ARGUMENT,
        "long total(int) " + ARGUMENT, "int latest(int,int) " + INDEX + " " + ARGUMENT, "boolean isWarned()",
        "int hour(int,int) " + INDEX + " " + ELEMENT, "double fairness(int) " + ELEMENT,
        "double fairnessOfPrograms()", "int unfairest()", "float served(int) " + INDEX, "int mostYielding()",
        "int dropRow(int)", "int dropsIn(int) " + ARGUMENT, "int deliveredIn(int,int) " + INDEX + " " + ARGUMENT,
        "int firstDrop()", "int calmIn()", "int bestThreshold(int) " + ARGUMENT,
        "int neededCapacity(int) " + ARGUMENT, "int culprit(int) " + ARGUMENT, "int run(int) " + ARGUMENT,
        "boolean turn(int,boolean) " + INDEX, "int setRate(int,int) " + INDEX + " " + ARGUMENT,
        "int setYield(int,int) " + INDEX + " " + ARGUMENT, "int setCap(int,int) " + INDEX + " " + ARGUMENT,
        "int topUp(int,int) " + INDEX + " " + ARGUMENT + " " + STATE, "int setLink(int,int) " + ARGUMENT,
        "int setPrices(int,int) " + ARGUMENT, "int report()", "int reportByte(int)", "int undo()",
        "boolean saveSnapshot(int) " + ARGUMENT, "int restoreSnapshot(int) " + ARGUMENT + " " + STATE,
        "long checksum()"};

    private FaceTest() {
    }

    private static String signature(Method method) {
        StringBuilder text = new StringBuilder(method.getReturnType() + " " + method.getName() + "(");
        for (Class<?> type : method.getParameterTypes()) {
            text.append(text.charAt(text.length() - 1) == '(' ? "" : ",").append(type);
        }
        text.append(')');
        for (Class<?> type : method.getExceptionTypes()) {
            text.append(' ').append(type.getSimpleName());
        }
        return text.toString();
    }

    public static void main(String[] arguments) {
        Class<?> face = RefundShaper.class;
        Check.due("public and final", Modifier.PUBLIC | Modifier.FINAL, face.getModifiers());
        TreeSet<String> due = new TreeSet<>();
        TreeSet<String> names = new TreeSet<>();
        for (String signature : FACE) {
            due.add(signature);
            names.add(signature.substring(signature.indexOf(' ') + 1, signature.indexOf('(')));
        }
        TreeSet<String> got = new TreeSet<>();
        for (Method method : face.getDeclaredMethods()) {
            boolean isPrivate = Modifier.isPrivate(method.getModifiers());
            if (!isPrivate) {
                got.add(signature(method));
                Check.due(method + " is public", Modifier.PUBLIC, method.getModifiers());
            }
            Check.due("is private and named as a public one: " + method, false,
                    isPrivate && names.contains(method.getName()));
        }
        Check.due("methods", due.toString(), (Object) got.toString());
        Constructor<?>[] constructors = face.getDeclaredConstructors();
        Check.due("constructors", 1, constructors.length);
        Check.due("constructor", "public RefundShaper()", (Object) constructors[0].toString());
        for (Field field : face.getDeclaredFields()) {
            Check.due("is private: " + field, !field.getName().equals("NONE"),
                    Modifier.isPrivate(field.getModifiers()));
        }
        Check.due("NONE", -1, RefundShaper.NONE);
        for (Class<?> inside : face.getDeclaredClasses()) {
            Check.due("is static and hidden: " + inside, true, Modifier.isStatic(inside.getModifiers())
                    && !Modifier.isPublic(inside.getModifiers()) && !Modifier.isProtected(inside.getModifiers()));
            for (Method method : inside.getDeclaredMethods()) {
                Check.due("is named as a public one: " + method, false, names.contains(method.getName()));
            }
        }
        Check.end("FaceTest");
    }
}
