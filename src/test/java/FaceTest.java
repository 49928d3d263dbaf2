import java.lang.reflect.Constructor;
import java.lang.reflect.Field;
import java.lang.reflect.Member;
import java.lang.reflect.Method;
import java.lang.reflect.Modifier;
import java.util.TreeSet;

/** The public face is that of the document and nothing else is seen from outside. */
public final class FaceTest {
    private static final String[] FACE = {
        "public static final int TurningPlans.NONE",
        "public TurningPlans()",
        "public int TurningPlans.row(int,int,int,int)",
        "public int TurningPlans.test(int,int,int)",
        "public boolean TurningPlans.join(int,int)",
        "public boolean TurningPlans.ask()",
        "public boolean TurningPlans.stop()",
        "public int TurningPlans.go(int)",
        "public boolean TurningPlans.memory(int)",
        "public boolean TurningPlans.force(int)",
        "public boolean TurningPlans.order(int,int)",
        "public int TurningPlans.ordered(int,int)",
        "public int TurningPlans.told(int,int,int)",
        "public int TurningPlans.given(int,int)",
        "public int TurningPlans.where(int,int)",
        "public int TurningPlans.sum(int,int)",
        "public int TurningPlans.plain()",
        "public int TurningPlans.fixed(int)",
        "public int TurningPlans.cost(int)",
        "public int TurningPlans.count(int)",
    };

    public static void main(String[] args) {
        Checks checks = new Checks("FaceTest");
        TreeSet<String> due = new TreeSet<>(java.util.List.of(FACE));
        TreeSet<String> seen = new TreeSet<>();
        for (Constructor<?> constructor : TurningPlans.class.getDeclaredConstructors()) {
            addIfSeen(seen, constructor, constructor.toString());
        }
        for (Field field : TurningPlans.class.getDeclaredFields()) {
            addIfSeen(seen, field, field.toString());
            checks.due("static field is final " + field, isFinalIfStatic(field), true);
        }
        for (Method method : TurningPlans.class.getDeclaredMethods()) {
            addIfSeen(seen, method, method.toString());
        }
        checks.due("face", seen.toString(), due.toString());
        checks.due("final", Modifier.isFinal(TurningPlans.class.getModifiers()), true);
        for (Class<?> inside : TurningPlans.class.getDeclaredClasses()) {
            checks.due("static " + inside, Modifier.isStatic(inside.getModifiers()), true);
            checks.due("not public " + inside, Modifier.isPublic(inside.getModifiers()), false);
        }
        checks.end();
    }

    private static void addIfSeen(TreeSet<String> seen, Member member, String text) {
        if (!Modifier.isPrivate(member.getModifiers()) && !member.isSynthetic()) {
            seen.add(text);
        }
    }

    private static boolean isFinalIfStatic(Field field) {
        return !Modifier.isStatic(field.getModifiers()) || Modifier.isFinal(field.getModifiers());
    }

    private FaceTest() {
    }
}
