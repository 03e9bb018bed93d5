import java.io.IOException;
import java.util.ArrayList;
import java.util.Arrays;
import java.util.HashMap;
import java.util.List;
import java.util.Map;
import java.util.Set;
import java.util.TreeSet;

/** What ../shared/LANGUAGE.md says of the program, looked for in its compiled classes; each check names the rule. */
public final class ClassFileTest {
    private static final Set<String> LIBRARY = Set.of("java/lang/Object.<init>", "java/lang/String.length", "java/lang/String.charAt",
        "java/util/Arrays.fill", "java/lang/System.arraycopy", "java/lang/Math.abs", "java/lang/Math.min", "java/lang/Math.max",
        "java/lang/Math.floorMod", "java/lang/Integer.bitCount");
    // objects are made when the class's own rows are, by a LAW that is taken, by an IMAGE kept the first time
    private static final Set<String> MAKERS = Set.of("<init>", "<clinit>", "law", "image");
    private static final String ALLOWED_TYPES = "\\(?([ZBCSIJFDV]|\\[{1,2}[ZBCSIJFD]|\\[?L(SplitFares(\\$\\w+)?|java/lang/String);|\\))*";
    private static final Map<Integer, String> RULED_OUT = Map.of(186, "invokedynamic", 191, "athrow", 194, "monitorenter", 195, "monitorexit",
        192, "checkcast", 197, "multianewarray");
    private static final int STATIC = 8;
    private static final int FINAL = 16;
    private static final int PRIVATE = 2;
    private static final int MOST_DEEP = 8;

    private static final Map<String, ClassFile.Member> METHODS = new HashMap<>();
    private static final Map<String, Integer> DEPTHS = new HashMap<>();
    private static int wrong = 0;

    public static void main(String[] args) throws IOException {
        List<ClassFile> files = new ArrayList<>();
        files.add(ClassFile.of("SplitFares"));
        for (Class<?> inside : SplitFares.class.getDeclaredClasses()) {
            files.add(ClassFile.of(inside.getName()));
            check(inside.getDeclaredClasses().length == 0, 11, inside + " has classes inside it");
        }
        check(files.size() <= 12, 11, files.size() + " classes");
        for (ClassFile file : files) {
            for (ClassFile.Member method : file.methods) {
                check(METHODS.put(file.name + "." + method.name, method) == null, 1, method.name + " stands twice in " + file.name);
            }
        }
        for (ClassFile file : files) {
            fields(file);
            for (ClassFile.Member method : file.methods) {
                method(file, method);
            }
        }
        recursion();
        depth();
        System.out.println("ClassFileTest: " + METHODS.size() + " methods, " + wrong + " wrong");
        if (wrong != 0) {
            System.exit(1);
        }
    }

    private static void check(boolean good, int rule, String what) {
        if (!good) {
            wrong++;
            System.out.println("ClassFileTest, rule " + rule + ": " + what);
        }
    }

    private static void fields(ClassFile file) {
        int own = 0;
        for (ClassFile.Member field : file.fields) {
            check(field.type.matches(ALLOWED_TYPES), 3, file.name + "." + field.name + " is of " + field.type);
            if ((field.how & STATIC) != 0) {
                check((field.how & FINAL) != 0, 5, file.name + "." + field.name + " is not final");
                check(field.type.matches("[IJZC]|Ljava/lang/String;|\\[[IJCB]"), 5, file.name + "." + field.name + " is static and of " + field.type);
            } else {
                own++;
            }
        }
        check(own <= 20, 11, file.name + " has " + own + " fields");
    }

    private static void method(ClassFile file, ClassFile.Member method) {
        String name = file.name + "." + method.name;
        check(method.type.matches(ALLOWED_TYPES), 3, name + " is of " + method.type);
        check(method.handlers == 0, 6, name + " catches");
        for (int instruction : method.instructions) {
            check(!RULED_OUT.containsKey(instruction), 6, name + " has " + RULED_OUT.get(instruction));
        }
        for (String called : method.called) {
            check(METHODS.containsKey(called) || LIBRARY.contains(called), 4, name + " calls " + called);
        }
        check(method.made.isEmpty() || MAKERS.contains(method.name), 12, name + " makes " + method.made);
        check(method.made.stream().noneMatch(made -> made.startsWith("java/")), 4, name + " makes " + method.made);
    }

    private static void collect(String name, Set<String> reached) {
        ClassFile.Member method = METHODS.get(name);
        for (String called : method == null ? List.<String>of() : method.called) {
            if (reached.add(called)) {
                collect(called, reached);
            }
        }
    }

    private static boolean comesTo(String name, String other) {
        Set<String> reached = new TreeSet<>();
        collect(name, reached);
        return reached.contains(other);
    }

    /** Methods that come to call themselves: private static ones, by their depth alone. */
    private static void recursion() {
        Set<String> found = new TreeSet<>();
        for (String name : METHODS.keySet()) {
            if (comesTo(name, name)) {
                found.add(name);
                check((METHODS.get(name).how & (STATIC | PRIVATE)) == (STATIC | PRIVATE), 8, name + " is not private and static");
            }
        }
        Set<String> due = new TreeSet<>(Arrays.asList("SplitFares$Reader.readTest", "SplitFares$Reader.readSum"));
        check(found.equals(due), 8, "what calls itself is " + found);
    }

    /** How many calls stand open at most, this one with them; calls by which a method comes back to itself aside. */
    private static int deep(String name) {
        Integer known = DEPTHS.get(name);
        if (known != null) {
            return known;
        }
        int deepest = 0;
        ClassFile.Member method = METHODS.get(name);
        for (String called : method == null ? List.<String>of() : method.called) {
            boolean comesBack = called.equals(name) || comesTo(called, name);
            deepest = Math.max(deepest, comesBack ? 0 : deep(called));
        }
        DEPTHS.put(name, deepest + 1);
        return deepest + 1;
    }

    private static void depth() {
        for (String name : METHODS.keySet()) {
            check(deep(name) <= MOST_DEEP, 11, name + " goes " + deep(name) + " deep");
        }
    }
}
