import java.lang.reflect.Constructor;
import java.lang.reflect.Field;
import java.lang.reflect.Method;
import java.lang.reflect.Modifier;
import java.util.Set;
import java.util.TreeSet;

/** The public face of the class is that of the document, and nothing else in it is open. */
public final class FaceTest extends Checks {
    private static final String INDEX = " throws java.lang.IndexOutOfBoundsException";
    private static final String ARGUMENT = " throws java.lang.IllegalArgumentException";
    private static final String INDEX_ARGUMENT = INDEX + ",java.lang.IllegalArgumentException";
    private static final String INDEX_STATE = INDEX + ",java.lang.IllegalStateException";
    private static final String[] METHODS = {
        "int append(int,int,int,int,int)",
        "int load(int)" + ARGUMENT,
        "int errorOffset()",
        "int machineCount()",
        "int jobCount()",
        "int operationCount(int)" + INDEX,
        "int operation(int,int,int)" + INDEX_ARGUMENT,
        "int orderLength(int)" + INDEX,
        "int orderAt(int,int)" + INDEX,
        "int start(int,int)" + INDEX,
        "int leave(int,int)" + INDEX,
        "int completion(int)" + INDEX,
        "int makespan()",
        "int jobCost(int)" + INDEX,
        "int planCost()",
        "int blockedTime(int)" + INDEX,
        "int criticalLength()",
        "int critical(int) throws java.util.NoSuchElementException",
        "int blockCount()",
        "int longestBlock()",
        "boolean deadlocks(int,int)" + INDEX,
        "int makespanAfter(int,int)" + INDEX,
        "int bestSwap()",
        "int swap(int,int)" + INDEX_STATE,
        "int improve(int)" + ARGUMENT,
        "int place(int,int,int)" + INDEX_STATE,
        "int setDuration(int,int,int)" + INDEX_ARGUMENT,
        "int restart()",
        "int undo()",
        "long checksum()",
    };

    private static void theClass() {
        sentence("public final class BlockingShop");
        due("the class", Modifier.toString(BlockingShop.class.getModifiers()), "public final");
        due("what it extends", BlockingShop.class.getSuperclass(), Object.class);
        due("the interfaces of it", BlockingShop.class.getInterfaces().length, 0);
        sentence("public BlockingShop();");
        Constructor<?>[] constructors = BlockingShop.class.getDeclaredConstructors();
        due("the constructors", constructors.length, 1);
        due("the constructor", constructors[0].toString(), "public BlockingShop()");
        sentence("one public class with the document's face, and as many classes of your own inside it as you like");
        for (Class<?> inside : BlockingShop.class.getDeclaredClasses()) {
            boolean isOpen = (inside.getModifiers() & (Modifier.PUBLIC | Modifier.PROTECTED)) != 0;
            due("whether " + inside + " is open", isOpen, false);
            due("whether " + inside + " is static", Modifier.isStatic(inside.getModifiers()), true);
        }
    }

    private static void constants() {
        sentence("The constants");
        due("SYNTAX_ERROR", BlockingShop.SYNTAX_ERROR, -2);
        due("OUT_OF_RANGE", BlockingShop.OUT_OF_RANGE, -3);
        due("TOO_MANY", BlockingShop.TOO_MANY, -4);
        due("TOO_DEEP", BlockingShop.TOO_DEEP, -5);
        Set<String> open = new TreeSet<>();
        for (Field field : BlockingShop.class.getDeclaredFields()) {
            if (!Modifier.isPrivate(field.getModifiers())) {
                open.add(field.toString().replace("BlockingShop.", ""));
            }
        }
        Set<String> want = new TreeSet<>();
        for (String name : new String[] {"SYNTAX_ERROR", "OUT_OF_RANGE", "TOO_MANY", "TOO_DEEP"}) {
            want.add("public static final int " + name);
        }
        due("the fields that are not private", open, want);
    }

    private static void methods() {
        sentence("The public face");
        Set<String> want = new TreeSet<>();
        for (String method : METHODS) {
            want.add("public " + method);
        }
        Set<String> open = new TreeSet<>();
        for (Method method : BlockingShop.class.getDeclaredMethods()) {
            if (!Modifier.isPrivate(method.getModifiers())) {
                open.add(method.toString().replace("BlockingShop.", ""));
            }
        }
        due("the methods that are not private", open, want);
        sentence("No private method bears the name of a public one.");
        Set<String> names = new TreeSet<>();
        for (Method method : BlockingShop.class.getMethods()) {
            names.add(method.getName());
        }
        dueOtherNames(BlockingShop.class, names);
        for (Class<?> inside : BlockingShop.class.getDeclaredClasses()) {
            dueOtherNames(inside, names);
        }
    }

    private static void dueOtherNames(Class<?> owner, Set<String> names) {
        for (Method method : owner.getDeclaredMethods()) {
            boolean isTaken = Modifier.isPrivate(method.getModifiers()) && names.contains(method.getName());
            due("whether the name of " + method + " is taken", isTaken, false);
        }
    }

    public static void main(String[] args) {
        theClass();
        constants();
        methods();
        finish("the public face holds");
    }
}
