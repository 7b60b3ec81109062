import java.lang.reflect.Constructor;
import java.lang.reflect.Field;
import java.lang.reflect.Method;
import java.lang.reflect.Modifier;
import java.util.Arrays;
import java.util.List;
import java.util.TreeSet;

/** The class shows the document's face, and nothing else (promise 1's constructor, and 26 methods). */
public final class FaceTest {
    private static final String ARGUMENT = "IllegalArgumentException";
    private static final String INDEX = "IndexOutOfBoundsException";
    private static final String STATE = "IllegalStateException";

    private static final List<String> FACE = Arrays.asList(
        "int addUnit(int)" + throwing(ARGUMENT, STATE),
        "int relate(int,int,int)" + throwing(ARGUMENT, INDEX, STATE),
        "int takeBack(int)" + throwing(INDEX),
        "int relation(int,int)" + throwing(INDEX),
        "int count(int)" + throwing(INDEX),
        "int unit(int,int)" + throwing(INDEX),
        "int order(int,int)" + throwing(INDEX),
        "boolean isLinked(int,int)" + throwing(INDEX),
        "int row(int,boolean,int)" + throwing(INDEX),
        "int way(int,int,int)" + throwing(INDEX, ARGUMENT),
        "int between(int,int)" + throwing(INDEX),
        "int addFind(int,int,int,int)" + throwing(INDEX, ARGUMENT, STATE),
        "int place(int,int,int,int)" + throwing(INDEX, ARGUMENT),
        "int move(int,int)" + throwing(INDEX),
        "int find(int,int)" + throwing(INDEX),
        "int date(int,int,int)" + throwing(INDEX, ARGUMENT),
        "int bound(int,boolean)" + throwing(INDEX),
        "int doubt(int)" + throwing(INDEX),
        "int nearest(int,int,int,int)" + throwing(ARGUMENT),
        "int dig(int)" + throwing(INDEX, STATE),
        "int next(int)" + throwing(INDEX),
        "int setPhase(int,int)" + throwing(INDEX, ARGUMENT),
        "int phaseAll()" + throwing(),
        "int outOfPhase(boolean)" + throwing(),
        "double meanHeight()" + throwing(),
        "long digest()" + throwing());

    private static int wrong = 0;

    public static void main(String[] args) {
        check(Modifier.isPublic(TrenchBook.class.getModifiers()), "the class is public");
        check(Modifier.isFinal(TrenchBook.class.getModifiers()), "the class is final");
        checkConstructors();
        checkMethods();
        checkFields();
        checkClassesInside();
        System.exit(wrong == 0 ? 0 : 1);
    }

    private static void checkConstructors() {
        Constructor<?>[] made = TrenchBook.class.getDeclaredConstructors();
        check(made.length == 1, "there is one constructor");
        check(made[0].getParameterCount() == 0, "the constructor takes nothing");
        check(Modifier.isPublic(made[0].getModifiers()), "the constructor is public");
    }

    private static void checkMethods() {
        TreeSet<String> shown = new TreeSet<>();
        TreeSet<String> hidden = new TreeSet<>();
        TreeSet<String> shownNames = new TreeSet<>();
        for (Method method : TrenchBook.class.getDeclaredMethods()) {
            if (Modifier.isPrivate(method.getModifiers())) {
                hidden.add(method.getName());
            } else {
                check(Modifier.isPublic(method.getModifiers()), method + " is public or private");
                check(!Modifier.isStatic(method.getModifiers()), method + " is not static");
                shown.add(signature(method));
                shownNames.add(method.getName());
            }
        }
        check(shown.equals(new TreeSet<>(FACE)), "the methods are the document's: " + shown);
        hidden.retainAll(shownNames);
        check(hidden.isEmpty(), "no private method bears a public one's name: " + hidden);
    }

    private static String signature(Method method) {
        StringBuilder text = new StringBuilder();
        text.append(method.getReturnType()).append(' ').append(method.getName()).append('(');
        String comma = "";
        for (Class<?> type : method.getParameterTypes()) {
            text.append(comma).append(type);
            comma = ",";
        }
        text.append(')');
        Class<?>[] types = method.getExceptionTypes();
        String[] names = new String[types.length];
        for (int place = 0; place < types.length; place++) {
            names[place] = types[place].getSimpleName();
        }
        return text.append(throwing(names)).toString();
    }

    private static String throwing(String... exceptions) {
        return " throws " + String.join(", ", exceptions);
    }

    private static void checkFields() {
        for (Field field : TrenchBook.class.getDeclaredFields()) {
            check(Modifier.isPrivate(field.getModifiers()), field + " is private");
            check(!Modifier.isStatic(field.getModifiers()) || Modifier.isFinal(field.getModifiers()),
                field + " is final if it is static");
        }
    }

    private static void checkClassesInside() {
        for (Class<?> inside : TrenchBook.class.getDeclaredClasses()) {
            check(!Modifier.isPublic(inside.getModifiers()), inside + " is not public");
            check(!Modifier.isProtected(inside.getModifiers()), inside + " is not protected");
            check(Modifier.isStatic(inside.getModifiers()), inside + " is static");
        }
    }

    private static void check(boolean holds, String what) {
        if (!holds) {
            wrong++;
            System.out.println("does not hold: " + what);
        }
    }
}
