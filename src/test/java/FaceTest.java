import java.lang.reflect.Constructor;
import java.lang.reflect.Field;
import java.lang.reflect.Method;
import java.lang.reflect.Modifier;
import java.util.Arrays;
import java.util.List;
import java.util.TreeSet;

/** The class shows the document's face, and nothing else (promise 1's constructor, and 26 methods). */
public final class FaceTest {
    private static final List<String> FACE = Arrays.asList(
        "int addUnit(int)", "int relate(int,int,int)", "int takeBack(int)", "int relation(int,int)",
        "int count(int)", "int unit(int,int)", "int order(int,int)", "boolean isLinked(int,int)",
        "int row(int,boolean,int)", "int way(int,int,int)", "int between(int,int)",
        "int addFind(int,int,int,int)", "int place(int,int,int,int)", "int move(int,int)",
        "int find(int,int)", "int date(int,int,int)", "int bound(int,boolean)", "int doubt(int)",
        "int nearest(int,int,int,int)", "int dig(int)", "int next(int)", "int setPhase(int,int)",
        "int phaseAll()", "int outOfPhase(boolean)", "double meanHeight()", "long digest()");

    private static int wrong = 0;

    public static void main(String[] args) {
        check(Modifier.isPublic(TrenchBook.class.getModifiers()), "the class is public");
        check(Modifier.isFinal(TrenchBook.class.getModifiers()), "the class is final");
        checkConstructors();
        checkMethods();
        checkFields();
        checkClassesInside();
        System.exit(wrong == 0 ? 0 : 1);
    }

    private static void checkConstructors() {
        Constructor<?>[] made = TrenchBook.class.getDeclaredConstructors();
        check(made.length == 1, "there is one constructor");
        check(made[0].getParameterCount() == 0, "the constructor takes nothing");
        check(Modifier.isPublic(made[0].getModifiers()), "the constructor is public");
    }

    private static void checkMethods() {
        TreeSet<String> shown = new TreeSet<>();
        TreeSet<String> hidden = new TreeSet<>();
        TreeSet<String> shownNames = new TreeSet<>();
        for (Method method : TrenchBook.class.getDeclaredMethods()) {
            if (Modifier.isPrivate(method.getModifiers())) {
                hidden.add(method.getName());
            } else {
                check(Modifier.isPublic(method.getModifiers()), method + " is public or private");
                check(!Modifier.isStatic(method.getModifiers()), method + " is not static");
                shown.add(signature(method));
                shownNames.add(method.getName());
            }
        }
        check(shown.equals(new TreeSet<>(FACE)), "the methods are the document's: " + shown);
        hidden.retainAll(shownNames);
        check(hidden.isEmpty(), "no private method bears a public one's name: " + hidden);
    }

    private static String signature(Method method) {
        StringBuilder text = new StringBuilder();
        text.append(method.getReturnType()).append(' ').append(method.getName()).append('(');
        String comma = "";
        for (Class<?> type : method.getParameterTypes()) {
            text.append(comma).append(type);
            comma = ",";
        }
        return text.append(')').toString();
    }

    private static void checkFields() {
        for (Field field : TrenchBook.class.getDeclaredFields()) {
            check(Modifier.isPrivate(field.getModifiers()), field + " is private");
            check(!Modifier.isStatic(field.getModifiers()) || Modifier.isFinal(field.getModifiers()),
                field + " is final if it is static");
        }
    }

    private static void checkClassesInside() {
        for (Class<?> inside : TrenchBook.class.getDeclaredClasses()) {
            check(!Modifier.isPublic(inside.getModifiers()), inside + " is not public");
            check(!Modifier.isProtected(inside.getModifiers()), inside + " is not protected");
            check(Modifier.isStatic(inside.getModifiers()), inside + " is static");
        }
    }

    private static void check(boolean holds, String what) {
        if (!holds) {
            wrong++;
            System.out.println("does not hold: " + what);
        }
    }
}
