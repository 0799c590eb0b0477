import java.lang.reflect.Constructor;
import java.lang.reflect.Field;
import java.lang.reflect.Member;
import java.lang.reflect.Method;
import java.lang.reflect.Modifier;
import java.util.ArrayList;
import java.util.List;
import java.util.Set;
import java.util.TreeSet;

/** The public face: just the constants, the constructor and the methods that the document lists. */
public final class FaceTest {
    private static final Set<String> FACE = new TreeSet<>(List.of(
            "int BAD", "int FULL", "int OPEN", "int BROKEN", "HoleCounter()",
            "int add(int, int)", "boolean clear(int)", "int count(int, int)", "int simplex(int, int, int)",
            "int incidence(int, int, int, int)", "int euler(int)", "int betti(int, int)", "int torsion(int, int, int)",
            "int bettiModulo(int, int, int)", "boolean put(int, int, int)", "int get(int, int)",
            "int boundary(int, int)", "int order(int, int)", "boolean map(int, int)", "boolean simplicial()",
            "int image(int)", "int rank(int)", "int products(int)"));

    public static void main(String[] args) {
        Check check = new Check("FaceTest");
        Set<String> seen = new TreeSet<>();
        for (Member member : members()) {
            if (!Modifier.isPrivate(member.getModifiers()) && !member.isSynthetic()) {
                seen.add(describe(member));
                check.due(member + " is public", Modifier.isPublic(member.getModifiers()), true);
            }
        }
        check.due("the face is as listed " + seen, seen.equals(FACE), true);
        check.due("the class is public and final",
                (HoleCounter.class.getModifiers() & (Modifier.PUBLIC | Modifier.FINAL)),
                Modifier.PUBLIC | Modifier.FINAL);
        check.due("BAD", HoleCounter.BAD, -1);
        check.due("FULL", HoleCounter.FULL, -2);
        check.due("OPEN", HoleCounter.OPEN, -3);
        check.due("BROKEN", HoleCounter.BROKEN, -4);
        check.finish();
    }

    private static List<Member> members() {
        List<Member> members = new ArrayList<>();
        members.addAll(List.of(HoleCounter.class.getDeclaredFields()));
        members.addAll(List.of(HoleCounter.class.getDeclaredConstructors()));
        members.addAll(List.of(HoleCounter.class.getDeclaredMethods()));
        return members;
    }

    private static String describe(Member member) {
        if (member instanceof Field field) {
            return field.getType() + " " + field.getName();
        }
        if (member instanceof Constructor<?> constructor) {
            return constructor.getName() + list(constructor.getParameterTypes());
        }
        Method method = (Method) member;
        return method.getReturnType() + " " + method.getName() + list(method.getParameterTypes());
    }

    private static String list(Class<?>[] types) {
        List<String> names = new ArrayList<>();
        for (Class<?> type : types) {
            names.add(type.getName());
        }
        return "(" + String.join(", ", names) + ")";
    }
}
