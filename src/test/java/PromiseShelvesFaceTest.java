import java.lang.reflect.Constructor;
import java.lang.reflect.Field;
import java.lang.reflect.Member;
import java.lang.reflect.Method;
import java.lang.reflect.Modifier;
import java.util.Set;
import java.util.TreeSet;

/** The face of the class: all that the document lists, with its throws, and nothing that is not private beside it. */
public final class PromiseShelvesFaceTest {
    private static final String[] FACE = {
        "int make(int,int,int) IndexOutOfBoundsException IllegalArgumentException IllegalStateException",
        "int move(int,int) IndexOutOfBoundsException IllegalStateException",
        "int keep(int) IndexOutOfBoundsException IllegalStateException",
        "int set(int,int) IndexOutOfBoundsException IllegalArgumentException",
        "boolean switchPower()",
        "int pass(int) IllegalArgumentException",
        "int hour()",
        "boolean hasPower()",
        "int settingOf(int) IndexOutOfBoundsException",
        "int heatOn(int) IndexOutOfBoundsException",
        "int promisesOn(int) IndexOutOfBoundsException",
        "int coldest()",
        "int alarms()",
        "int promises()",
        "int makerOf(int) IndexOutOfBoundsException",
        "int shelfOf(int) IndexOutOfBoundsException",
        "int heatOf(int) IndexOutOfBoundsException",
        "int ageOf(int) IndexOutOfBoundsException",
        "int hoursLeft(int) IndexOutOfBoundsException",
        "boolean isFrozen(int) IndexOutOfBoundsException",
        "boolean isThawed(int) IndexOutOfBoundsException",
        "boolean isKept(int) IndexOutOfBoundsException",
        "boolean isExpired(int) IndexOutOfBoundsException",
        "int owedBy(int) IndexOutOfBoundsException",
        "int honourOf(int) IndexOutOfBoundsException",
        "int mostHonourable()",
        "int hoursUntilFrozen(int) IndexOutOfBoundsException",
        "int hoursUntilThawed(int) IndexOutOfBoundsException",
        "int hoursUntilExpired(int) IndexOutOfBoundsException",
        "int leftIn(int) IllegalArgumentException",
        "int bestShelf()",
        "int hoursOfCold()",
        "double meanHeat()",
        "long digest()",
    };
    private static int wrong = 0;

    private static void check(boolean isSo, String what) {
        if (!isSo) {
            wrong++;
            System.out.println(what);
        }
    }

    private static String told(Method method) {
        StringBuilder text = new StringBuilder(method.getReturnType().getSimpleName() + " " + method.getName() + "(");
        Class<?>[] taken = method.getParameterTypes();
        for (int i = 0; i < taken.length; i++) {
            text.append(i == 0 ? "" : ",").append(taken[i].getSimpleName());
        }
        text.append(")");
        for (Class<?> thrown : method.getExceptionTypes()) {
            text.append(" ").append(thrown.getSimpleName());
        }
        return text.toString();
    }

    private static boolean isHidden(Member member) {
        return Modifier.isPrivate(member.getModifiers()) || member.isSynthetic();
    }

    private static void checkMethods(Class<?> face) {
        Set<String> due = new TreeSet<>(Set.of(FACE));
        Set<String> publicNames = new TreeSet<>();
        for (Method method : face.getDeclaredMethods()) {
            if (!isHidden(method)) {
                check(due.remove(told(method)), "not in the document: " + told(method));
                int modifiers = method.getModifiers();
                check(Modifier.isPublic(modifiers) && !Modifier.isStatic(modifiers), "not a public method of objects: " + method);
                publicNames.add(method.getName());
            }
        }
        check(due.isEmpty(), "missing: " + due);
        for (Method method : face.getDeclaredMethods()) {
            check(!isHidden(method) || !publicNames.contains(method.getName()), "a private method with a public name: " + method);
        }
    }

    public static void main(String[] args) {
        Class<?> face = PromiseShelves.class;
        check(Modifier.isPublic(face.getModifiers()) && Modifier.isFinal(face.getModifiers()), "the class is public and final");
        check(face.getSuperclass() == Object.class && face.getInterfaces().length == 0, "the class extends and implements nothing");
        Constructor<?>[] constructors = face.getDeclaredConstructors();
        check(constructors.length == 1 && constructors[0].getParameterCount() == 0
                && Modifier.isPublic(constructors[0].getModifiers()), "one public constructor without parameters");
        checkMethods(face);
        for (Field field : face.getDeclaredFields()) {
            check(isHidden(field), "a field that is not private: " + field);
            int modifiers = field.getModifiers();
            check(!Modifier.isStatic(modifiers) || Modifier.isFinal(modifiers), "a static field that is not final: " + field);
        }
        for (Class<?> inside : face.getDeclaredClasses()) {
            check(Modifier.isPrivate(inside.getModifiers()) && Modifier.isStatic(inside.getModifiers()), "not private and static: " + inside);
        }
        System.out.println(wrong == 0 ? "the face is as due" : wrong + " faults of the face");
        if (wrong != 0) {
            System.exit(1);
        }
    }
}
