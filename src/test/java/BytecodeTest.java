import java.io.IOException;
import java.io.InputStream;
import java.util.ArrayList;
import java.util.List;
import java.util.Map;
import java.util.Set;
import java.util.TreeMap;

/** The rules of LANGUAGE.md that can be seen from the compiled program: what it calls, how deep, where it makes objects. */
public final class BytecodeTest {
    /** athrow, checkcast, monitorenter, monitorexit, invokedynamic. */
    private static final Set<Integer> REFUSED = Set.of(191, 192, 194, 195, 186);
    /** new, newarray, anewarray, multianewarray. */
    private static final Set<Integer> MAKING = Set.of(187, 188, 189, 197);
    /** What the program calls of the library now; LANGUAGE.md would allow more. */
    private static final Set<String> LIBRARY = Set.of("java/lang/Object.<init>()V", "java/lang/Math.abs(I)I",
        "java/lang/Math.min(II)I", "java/lang/Math.max(II)I",
        "java/lang/System.arraycopy(Ljava/lang/Object;ILjava/lang/Object;II)V");
    private static final Check check = new Check("BytecodeTest");
    private static final Map<String, ClassFile.Method> methods = new TreeMap<>();
    private static final Map<String, Integer> depths = new TreeMap<>();

    public static void main(String[] args) throws IOException {
        List<Class<?>> classes = new ArrayList<>(List.of(BridgeWardens.class.getDeclaredClasses()));
        classes.add(BridgeWardens.class);
        for (Class<?> one : classes) {
            try (InputStream bytes = one.getResourceAsStream(one.getName() + ".class")) {
                new ClassFile(bytes).methods.forEach(method -> methods.put(method.name, method));
            }
        }
        check.due("methods were found", methods.size() > 28 ? 1 : 0, 1);
        for (ClassFile.Method method : methods.values()) {
            instructions(method);
            library(method);
            check.due("calls that stand open at once from " + method.name, Math.max(8, depth(method.name)), 8);
        }
        check.end();
    }

    private static void instructions(ClassFile.Method method) {
        boolean atFirst = method.name.contains(".<init>") || method.name.contains(".<clinit>");
        check.due(method.name + " catches", method.handlers, 0);
        for (int instruction : method.instructions) {
            check.due(method.name + " throws, casts or locks", REFUSED.contains(instruction) ? 1 : 0, 0);
            check.due(method.name + " makes an object", MAKING.contains(instruction) && !atFirst ? 1 : 0, 0);
        }
    }

    private static void library(ClassFile.Method method) {
        for (String called : method.calls) {
            check.due(called + " is of the program or may be called",
                methods.containsKey(called) || LIBRARY.contains(called) ? 1 : 0, 1);
        }
    }

    /** How many calls stand open at most, this one with them; a method that comes to itself again is told as a thousand. */
    private static int depth(String name) {
        Integer known = depths.get(name);
        if (known != null) {
            return known;
        }
        depths.put(name, 1000);
        int deepest = 0;
        for (String called : methods.containsKey(name) ? methods.get(name).calls : Set.<String>of()) {
            deepest = Math.max(deepest, depth(called));
        }
        depths.put(name, deepest + 1);
        return deepest + 1;
    }
}
