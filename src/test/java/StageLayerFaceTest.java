import java.lang.reflect.Constructor;
import java.lang.reflect.Executable;
import java.lang.reflect.Field;
import java.lang.reflect.Method;
import java.lang.reflect.Modifier;
import java.util.Arrays;
import java.util.Set;
import java.util.TreeSet;

/**
 * "The public face": each member as it stands in the document, and no other. What is not public is
 * private, so that nothing but the document's members can be used.
 */
public final class StageLayerFaceTest {
    private static final String OUTSIDE = "IndexOutOfBoundsException";
    private static final String ARGUMENT = "IllegalArgumentException";
    private static final String STATE = "IllegalStateException";

    private static final Set<String> FACE = new TreeSet<>(Arrays.asList(
            "public static final int NONE",
            "public StageLayer()",
            "public void clear()",
            "public int assign(int, int) throws " + OUTSIDE + ", " + STATE,
            "public int load(int, int, int) throws " + OUTSIDE + ", " + STATE,
            "public int store(int, int, int) throws " + OUTSIDE + ", " + STATE,
            "public int valid(int, boolean) throws " + OUTSIDE + ", " + STATE,
            "public int drop() throws " + STATE,
            "public int open(int) throws " + OUTSIDE + ", " + STATE,
            "public int close() throws " + STATE,
            "public int apply(int, int, int) throws " + OUTSIDE + ", " + ARGUMENT + ", " + STATE,
            "public int lay(int, int, int) throws " + ARGUMENT,
            "public int homeless()",
            "public int stage(int)",
            "public int used(int, int)",
            "public int count(int)"));

    private static int wrong = 0;

    public static void main(String[] args) {
        theClass();
        theMembers();
        theConstant();
        staticFieldsAreFinal();
        privateNamesAreNoPublicOnes();
        System.out.println(wrong == 0 ? "the face is as due" : wrong + " faults in the face");
        if (wrong != 0) {
            System.exit(1);
        }
    }

    private static void hold(String what, boolean holds) {
        if (!holds) {
            wrong++;
            System.out.println("does not hold: " + what);
        }
    }

    private static void theClass() {
        Class<?> c = StageLayer.class;
        hold("public final class", "public final".equals(Modifier.toString(c.getModifiers())));
        hold("in no package", c.getPackageName().isEmpty());
        hold("extends nothing", c.getSuperclass() == Object.class);
        hold("implements nothing", c.getInterfaces().length == 0);
        hold("no type parameters", c.getTypeParameters().length == 0);
        for (Class<?> inside : c.getDeclaredClasses()) {
            int how = inside.getModifiers();
            hold(inside + " is neither public nor protected",
                    !Modifier.isPublic(how) && !Modifier.isProtected(how));
        }
    }

    private static void theMembers() {
        Set<String> members = new TreeSet<>();
        for (Field f : StageLayer.class.getDeclaredFields()) {
            if (!Modifier.isPrivate(f.getModifiers())) {
                members.add(Modifier.toString(f.getModifiers()) + " "
                        + f.getType().getSimpleName() + " " + f.getName());
            }
        }
        for (Constructor<?> made : StageLayer.class.getDeclaredConstructors()) {
            addIfSeen(members, made, "StageLayer");
        }
        for (Method m : StageLayer.class.getDeclaredMethods()) {
            addIfSeen(members, m, m.getReturnType().getSimpleName() + " " + m.getName());
        }
        for (String member : FACE) {
            hold("there is: " + member, members.contains(member));
        }
        for (String member : members) {
            hold("the document has: " + member, FACE.contains(member));
        }
    }

    private static void addIfSeen(Set<String> members, Executable e, String name) {
        if (Modifier.isPrivate(e.getModifiers()) || e.isSynthetic()) {
            return;
        }
        String thrown = names(e.getExceptionTypes());
        members.add(Modifier.toString(e.getModifiers()) + " " + name
                + "(" + names(e.getParameterTypes()) + ")"
                + (thrown.isEmpty() ? "" : " throws " + thrown));
    }

    private static String names(Class<?>[] types) {
        StringBuilder all = new StringBuilder();
        for (Class<?> type : types) {
            all.append(all.length() == 0 ? "" : ", ").append(type.getSimpleName());
        }
        return all.toString();
    }

    private static void theConstant() {
        hold("NONE = -1", StageLayer.NONE == -1);
    }

    private static void staticFieldsAreFinal() {
        for (Field f : StageLayer.class.getDeclaredFields()) {
            int how = f.getModifiers();
            hold(f.getName() + ", being static, is final",
                    !Modifier.isStatic(how) || Modifier.isFinal(how));
        }
    }

    private static void privateNamesAreNoPublicOnes() {
        Method[] methods = StageLayer.class.getDeclaredMethods();
        Set<String> publicNames = new TreeSet<>();
        for (Method m : methods) {
            if (Modifier.isPublic(m.getModifiers())) {
                publicNames.add(m.getName());
            }
        }
        for (Method m : methods) {
            hold("no private method is named " + m.getName(),
                    !Modifier.isPrivate(m.getModifiers()) || !publicNames.contains(m.getName()));
        }
    }
}
