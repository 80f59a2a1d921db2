import java.lang.reflect.Constructor;
import java.lang.reflect.Field;
import java.lang.reflect.Member;
import java.lang.reflect.Method;
import java.lang.reflect.Modifier;
import java.util.ArrayList;
import java.util.Arrays;
import java.util.Collections;
import java.util.List;

/** The public face: every signature of the document, and nothing besides. */
public final class FaceTest {
    private static final String[] METHODS = {
        "boolean setPerson(int, int, boolean) IllegalArgumentException",
        "boolean setGroup(int, int, boolean) IllegalArgumentException IllegalStateException",
        "int setRole(int, int, int) IllegalArgumentException",
        "int setRisk(int, int) IllegalArgumentException",
        "boolean isIn(int, int) IllegalArgumentException",
        "boolean allows(int, int) IllegalArgumentException",
        "int open(int) IllegalArgumentException IllegalStateException",
        "int close(int) IndexOutOfBoundsException IllegalStateException",
        "boolean goesOn(int) IndexOutOfBoundsException",
        "int changeKeys(int) IllegalArgumentException",
        "boolean isTaken(int) IllegalArgumentException",
        "int pass(int) IllegalArgumentException",
        "int now()",
        "int breakGlass(int, int, int, int) IllegalArgumentException IllegalStateException",
        "int setCache(int, int) IllegalArgumentException",
        "int decide(int, int, int) IllegalArgumentException IndexOutOfBoundsException",
        "int forget(int, int) IllegalArgumentException",
        "int stale(int) IllegalArgumentException",
    };

    public static void main(String[] args) {
        constants();
        constructor();
        methods();
        Due.end();
    }

    private static void constants() {
        Due.is("LET_IN", SignOnHouse.LET_IN, 0);
        Due.is("REFUSED", SignOnHouse.REFUSED, 1);
        Due.is("NO_SESSION", SignOnHouse.NO_SESSION, 2);
        List<String> names = new ArrayList<>();
        for (Field field : SignOnHouse.class.getDeclaredFields()) {
            if (isSeen(field)) {
                names.add(Modifier.toString(field.getModifiers()) + " " + field.getType() + " " + field.getName());
            }
        }
        sameList("constants", names, List.of("public static final int LET_IN",
                "public static final int REFUSED", "public static final int NO_SESSION"));
    }

    private static void constructor() {
        Due.same("the class", Modifier.toString(SignOnHouse.class.getModifiers()), "public final");
        List<String> all = new ArrayList<>();
        for (Constructor<?> constructor : SignOnHouse.class.getDeclaredConstructors()) {
            if (isSeen(constructor)) {
                all.add(Modifier.toString(constructor.getModifiers()) + list(constructor.getParameterTypes(), ", "));
            }
        }
        sameList("constructors", all, List.of("public"));
    }

    private static void methods() {
        List<String> all = new ArrayList<>();
        for (Method method : SignOnHouse.class.getDeclaredMethods()) {
            if (isSeen(method)) {
                Due.same(method.getName(), Modifier.toString(method.getModifiers()), "public");
                String thrown = list(method.getExceptionTypes(), " ");
                all.add(method.getReturnType().getSimpleName() + " " + method.getName()
                        + "(" + list(method.getParameterTypes(), ", ") + ")" + (thrown.isEmpty() ? "" : " " + thrown));
            }
        }
        sameList("methods", all, Arrays.asList(METHODS));
    }

    private static boolean isSeen(Member member) {
        return !Modifier.isPrivate(member.getModifiers());
    }

    private static String list(Class<?>[] types, String between) {
        List<String> names = new ArrayList<>();
        for (Class<?> type : types) {
            names.add(type.getSimpleName());
        }
        return String.join(between, names);
    }

    private static void sameList(String what, List<String> got, List<String> want) {
        List<String> gotSorted = new ArrayList<>(got);
        List<String> wantSorted = new ArrayList<>(want);
        Collections.sort(gotSorted);
        Collections.sort(wantSorted);
        Due.same(what, gotSorted.toString(), wantSorted.toString());
    }
}
