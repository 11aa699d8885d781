import java.lang.reflect.Field;
import java.lang.reflect.Method;
import java.lang.reflect.Modifier;
import java.util.Arrays;
import java.util.Set;
import java.util.TreeSet;

/** The public face: the members that the document names, with their exceptions, and no other ones. */
public final class FaceTest {
    private static final String INDEX = " IndexOutOfBoundsException";
    private static final String ARGUMENT = " IllegalArgumentException";
    private static final String STATE = " IllegalStateException";
    private static final String ELEMENT = " NoSuchElementException";
    private static final String UNSUPPORTED = " UnsupportedOperationException";
    private static final String[] FACE = {
        "int addSite():" + STATE,
        "int setPhase(int,int):" + INDEX + ARGUMENT,
        "int addLine(int,int):" + INDEX + ARGUMENT + STATE,
        "int close(int):" + INDEX + STATE + UNSUPPORTED,
        "int open(int):" + INDEX + STATE,
        "int tie():" + ELEMENT + STATE + UNSUPPORTED,
        "int untie():" + STATE,
        "int island(int):" + INDEX,
        "int islandByRounds(int):" + INDEX,
        "int islands():",
        "int phase(int):" + INDEX,
        "int gap(int):" + INDEX,
        "int addGenerator(int,int,int,int,int):" + INDEX + ARGUMENT + STATE,
        "int start(int):" + INDEX + STATE + ELEMENT,
        "int stop(int):" + INDEX + STATE,
        "int startNext(int):" + INDEX + ELEMENT,
        "int refuel(int,int):" + INDEX + ARGUMENT + STATE,
        "char state(int):" + INDEX,
        "int fuel(int):" + INDEX,
        "int toGo(int):" + INDEX + ELEMENT,
        "int addStore(int,int,int):" + INDEX + ARGUMENT + STATE,
        "int charge(int):" + INDEX,
        "int addLoad(int,int,int):" + INDEX + ARGUMENT + STATE,
        "int setRank(int,int):" + INDEX + ARGUMENT,
        "boolean isLit(int):" + INDEX,
        "int waits(int):" + INDEX + ELEMENT,
        "int setReserve(int):" + ARGUMENT,
        "int setDelay(int):" + ARGUMENT,
        "int bound(int):" + INDEX,
        "int demand(int):" + INDEX,
        "boolean isKept(int):" + INDEX,
        "int barrier(int):" + INDEX + ELEMENT,
        "int behind(int):" + INDEX + ELEMENT,
        "int share(int,int,int):" + INDEX + ARGUMENT + ELEMENT,
        "int shareBySteps(int,int,int):" + INDEX + ARGUMENT + ELEMENT,
        "int pass(int):" + ARGUMENT,
        "int now():",
        "int given(int):" + INDEX,
        "int flow(int):" + INDEX,
        "int grid():",
        "long burnt():",
        "long served():",
        "long lost():",
        "boolean isBalanced():",
        "float litShare():" + ELEMENT,
    };

    public static void main(String[] args) {
        Class<?> face = Islandgrid.class;
        Check.same("public and final", Modifier.toString(face.getModifiers()), "public final");
        Check.same("constructors", Arrays.toString(face.getDeclaredConstructors()), "[public Islandgrid()]");
        Set<String> names = new TreeSet<>();
        Set<String> shown = new TreeSet<>();
        for (Method method : face.getDeclaredMethods()) {
            if (!Modifier.isPrivate(method.getModifiers())) {
                shown.add(signature(method));
                names.add(method.getName());
            }
        }
        Check.same("methods", shown.toString(), new TreeSet<>(Arrays.asList(FACE)).toString());
        for (Field field : face.getDeclaredFields()) {
            Check.same("private: " + field.getName(), Modifier.isPrivate(field.getModifiers()), true);
            checkStatic(field);
        }
        checkPrivateNames(face, names);
        for (Class<?> inside : face.getDeclaredClasses()) {
            Check.same("static: " + inside.getName(), Modifier.isStatic(inside.getModifiers()), true);
            checkPrivateNames(inside, names);
            for (Field field : inside.getDeclaredFields()) {
                checkStatic(field);
            }
        }
        Check.finish("FaceTest");
    }

    private static String signature(Method method) {
        StringBuilder text = new StringBuilder();
        text.append(method.getReturnType().getName()).append(' ').append(method.getName()).append('(');
        Class<?>[] types = method.getParameterTypes();
        for (int i = 0; i < types.length; i++) {
            text.append(i == 0 ? "" : ",").append(types[i].getName());
        }
        text.append("):");
        for (Class<?> thrown : method.getExceptionTypes()) {
            text.append(' ').append(thrown.getSimpleName());
        }
        return text.toString();
    }

    private static void checkStatic(Field field) {
        if (Modifier.isStatic(field.getModifiers())) {
            Check.same("final: " + field.getName(), Modifier.isFinal(field.getModifiers()), true);
        }
    }

    private static void checkPrivateNames(Class<?> owner, Set<String> names) {
        for (Method method : owner.getDeclaredMethods()) {
            boolean ofTheFace = owner == Islandgrid.class && !Modifier.isPrivate(method.getModifiers());
            Check.same("a name of its own: " + owner.getName() + "." + method.getName(),
                    ofTheFace || !names.contains(method.getName()), true);
        }
    }
}
