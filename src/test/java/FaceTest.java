import java.lang.reflect.Constructor;
import java.lang.reflect.Field;
import java.lang.reflect.Member;
import java.lang.reflect.Method;
import java.lang.reflect.Modifier;
import java.util.Arrays;
import java.util.Set;
import java.util.TreeSet;

/** The class has just the face that the document shows. */
public final class FaceTest {
    private static final String BOUNDS = " IndexOutOfBoundsException";
    private static final String ARGUMENT = " IllegalArgumentException";
    private static final String STATE = " IllegalStateException";

    private static final String[] FACE = {
        "boolean grant(int,int)" + BOUNDS,
        "boolean revoke(int,int)" + BOUNDS,
        "int setGrants(int,int)" + BOUNDS + ARGUMENT,
        "boolean setConflict(int,int,boolean)" + BOUNDS + ARGUMENT,
        "void setCosts(int,int)" + ARGUMENT,
        "int setSupport(int)" + ARGUMENT,
        "int setPeriod(int)" + ARGUMENT,
        "int review(int,int)" + BOUNDS + STATE,
        "int nextQuarter()" + STATE,
        "int mineGreedily()",
        "int mineBest()" + STATE,
        "int dropRoles()",
        "int permissions(int)" + BOUNDS,
        "int grants()",
        "int violations(int)" + BOUNDS,
        "int quarter()",
        "int due(int)" + BOUNDS,
        "int candidates()",
        "int candidate(int)" + BOUNDS,
        "int holders(int)" + ARGUMENT,
        "int costOf(int)" + STATE + ARGUMENT,
        "int leastCost()" + STATE,
        "int roles()",
        "int role(int)" + BOUNDS,
        "int rolesOf(int)" + BOUNDS,
        "int byRoles(int)" + BOUNDS,
        "int exceptions(int)" + BOUNDS,
        "int cost()",
        "boolean isRisky(int)" + BOUNDS,
    };

    private static final Checks checks = new Checks();

    public static void main(String[] args) {
        Class<RoleMiner> miner = RoleMiner.class;
        int modifiers = miner.getModifiers();
        checks.same("public final class", Modifier.isPublic(modifiers) && Modifier.isFinal(modifiers), true);

        Constructor<?>[] constructors = miner.getDeclaredConstructors();
        checks.same("one constructor", constructors.length, 1);
        checks.same("public RoleMiner()", Modifier.isPublic(constructors[0].getModifiers())
                && constructors[0].getParameterCount() == 0, true);

        for (Field field : miner.getDeclaredFields()) {
            checks.same("private " + field.getName(), isPrivate(field), true);
        }
        methods(miner);
        checks.end();
    }

    private static void methods(Class<?> miner) {
        Set<String> open = new TreeSet<>();
        Set<String> openNames = new TreeSet<>();
        for (Method method : miner.getDeclaredMethods()) {
            if (!isPrivate(method)) {
                checks.same("public " + method.getName(), Modifier.isPublic(method.getModifiers()), true);
                open.add(signature(method));
                openNames.add(method.getName());
            }
        }
        Set<String> due = new TreeSet<>(Arrays.asList(FACE));
        if (!open.equals(due)) {
            System.out.println("the face is " + open);
        }
        checks.same("the face is the document's", open.equals(due), true);
        for (Method method : miner.getDeclaredMethods()) {
            if (isPrivate(method)) {
                checks.same("a name of its own for " + method, openNames.contains(method.getName()), false);
            }
        }
    }

    private static boolean isPrivate(Member member) {
        return Modifier.isPrivate(member.getModifiers());
    }

    private static String signature(Method method) {
        StringBuilder text = new StringBuilder();
        text.append(method.getReturnType().getSimpleName()).append(' ').append(method.getName()).append('(');
        String between = "";
        for (Class<?> parameter : method.getParameterTypes()) {
            text.append(between).append(parameter.getSimpleName());
            between = ",";
        }
        text.append(')');
        for (Class<?> thrown : method.getExceptionTypes()) {
            text.append(' ').append(thrown.getSimpleName());
        }
        return text.toString();
    }
}
