import java.lang.reflect.Constructor;
import java.lang.reflect.Field;
import java.lang.reflect.Method;
import java.lang.reflect.Modifier;
import java.util.Set;
import java.util.TreeSet;

/** The class has the document's face and no other member that can be seen from outside. */
public final class FaceTests {
    private static final Set<String> METHODS = Set.of("add 3", "pack 1", "join 2", "clear 1", "set 2", "heapOf 3",
        "bufferOf 2", "digestOf 2", "quantile 2", "truth 2", "worst 2", "rank 2", "width 2", "settingFor 2", "count 1",
        "undo 0", "type 1", "clearText 0", "fault 1", "play 0");
    private static final Set<String> CONSTANTS = Set.of("INVALID_ARGUMENT -1000001", "NOT_POSSIBLE -1000002",
        "LIMIT_REACHED -1000003", "NOT_FOUND -1000004");

    public static void main(String[] args) throws IllegalAccessException {
        Class<?> face = QuantileDigests.class;
        Due.holds("the class is public and final", face.getModifiers() == (Modifier.PUBLIC | Modifier.FINAL));
        Due.holds("the methods are the document's", seenMethods(face).equals(METHODS));
        Due.holds("the constants are the document's", seenFields(face).equals(CONSTANTS));
        Constructor<?>[] constructors = face.getDeclaredConstructors();
        Due.holds("there is one public constructor without arguments", constructors.length == 1
            && constructors[0].getParameterCount() == 0 && Modifier.isPublic(constructors[0].getModifiers()));
        namesOfNoOtherMethod(face);
        for (Class<?> inside : face.getDeclaredClasses()) {
            namesOfNoOtherMethod(inside);
            Due.holds(inside + " is private and static", Modifier.isPrivate(inside.getModifiers())
                && Modifier.isStatic(inside.getModifiers()));
        }
        Due.end();
    }

    private static Set<String> seenMethods(Class<?> face) {
        Set<String> seen = new TreeSet<>();
        for (Method method : face.getDeclaredMethods()) {
            if (!Modifier.isPrivate(method.getModifiers())) {
                boolean isAsTold = method.getModifiers() == Modifier.PUBLIC && method.getReturnType() == int.class;
                for (Class<?> type : method.getParameterTypes()) {
                    isAsTold &= type == int.class;
                }
                seen.add(method.getName() + " " + method.getParameterCount() + (isAsTold ? "" : " not as told"));
            }
        }
        return seen;
    }

    private static Set<String> seenFields(Class<?> face) throws IllegalAccessException {
        Set<String> seen = new TreeSet<>();
        for (Field field : face.getDeclaredFields()) {
            if (!Modifier.isPrivate(field.getModifiers())) {
                boolean isConstant = field.getModifiers() == (Modifier.PUBLIC | Modifier.STATIC | Modifier.FINAL)
                    && field.getType() == int.class;
                seen.add(field.getName() + " " + (isConstant ? field.getInt(null) : "not as told"));
            }
        }
        return seen;
    }

    private static void namesOfNoOtherMethod(Class<?> type) {
        for (Method method : type.getDeclaredMethods()) {
            boolean isPublic = Modifier.isPublic(method.getModifiers());
            for (String told : METHODS) {
                Due.holds(method + " bears no public one's name", isPublic || !told.startsWith(method.getName() + " "));
            }
        }
    }
}
