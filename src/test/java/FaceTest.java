import java.lang.reflect.Constructor;
import java.lang.reflect.Field;
import java.lang.reflect.Method;
import java.lang.reflect.Modifier;
import java.util.ArrayList;
import java.util.Collections;
import java.util.List;

/** The class has the public face of the document, and no other member that is not private. */
public final class FaceTest {
    private static final String[] METHODS = {"int machine(int,int)", "int rule(int,int,int,int,int)", "int unrule()",
        "int stand(int)", "int push(int)", "int at(int)", "int go(int)", "int set()", "int link(int,int,int,int,int)",
        "int last(int,int,int,boolean)", "int unset()", "int in(int)", "long far(int)", "int step(int)",
        "int run(int,int)", "long pop(int,int,int)", "int endless()", "int high()", "int count(int)"};
    private static final String[] CONSTANTS = {"NONE=-1", "BAD=-2", "NOT=-3", "FULL=-4"};
    private static int wrong = 0;

    private static void due(String what, Object got, Object want) {
        if (!got.equals(want)) {
            wrong++;
            System.out.println(what + ": " + got + ", due is " + want);
        }
    }

    private static List<String> sorted(List<String> texts) {
        Collections.sort(texts);
        return texts;
    }

    private static String shape(Method method) {
        List<String> types = new ArrayList<>();
        for (Class<?> type : method.getParameterTypes()) {
            types.add(type.getName());
        }
        return method.getReturnType().getName() + " " + method.getName() + "(" + String.join(",", types) + ")";
    }

    private static void checkMethods() {
        List<String> open = new ArrayList<>();
        for (Method method : StackRuns.class.getDeclaredMethods()) {
            boolean isPublic = Modifier.isPublic(method.getModifiers());
            if (isPublic) {
                open.add(shape(method));
            } else {
                due(method + " is private", Modifier.isPrivate(method.getModifiers()), true);
            }
        }
        due("methods", sorted(open), sorted(new ArrayList<>(List.of(METHODS))));
    }

    private static void checkFields() throws IllegalAccessException {
        List<String> open = new ArrayList<>();
        for (Field field : StackRuns.class.getDeclaredFields()) {
            int bits = field.getModifiers();
            if (Modifier.isPublic(bits)) {
                due(field + " is constant", Modifier.isStatic(bits) && Modifier.isFinal(bits), true);
                open.add(field.getName() + "=" + field.getInt(null));
            } else {
                due(field + " is private", Modifier.isPrivate(bits), true);
            }
            due(field + " is final, if it is static", !Modifier.isStatic(bits) || Modifier.isFinal(bits), true);
        }
        due("constants", sorted(open), sorted(new ArrayList<>(List.of(CONSTANTS))));
    }

    private static void checkClasses() {
        int bits = StackRuns.class.getModifiers();
        due("public and final", Modifier.isPublic(bits) && Modifier.isFinal(bits), true);
        for (Class<?> inside : StackRuns.class.getDeclaredClasses()) {
            due(inside + " is static", Modifier.isStatic(inside.getModifiers()), true);
            due(inside + " is not public", Modifier.isPublic(inside.getModifiers()), false);
        }
        Constructor<?>[] makers = StackRuns.class.getDeclaredConstructors();
        due("constructors", makers.length, 1);
        due("its parameters", makers[0].getParameterCount(), 0);
        due("it is public", Modifier.isPublic(makers[0].getModifiers()), true);
    }

    public static void main(String[] args) throws IllegalAccessException {
        checkMethods();
        checkFields();
        checkClasses();
        System.out.println(wrong == 0 ? "the face is as due" : wrong + " things are not as due");
        if (wrong != 0) {
            System.exit(1);
        }
    }
}
