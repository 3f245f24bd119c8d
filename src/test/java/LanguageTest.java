import com.sun.source.tree.ClassTree;
import com.sun.source.tree.CompilationUnitTree;
import com.sun.source.util.JavacTask;
import com.sun.source.util.Trees;
import java.lang.reflect.Array;
import java.lang.reflect.Field;
import java.lang.reflect.Modifier;
import java.util.ArrayDeque;
import java.util.Collections;
import java.util.Deque;
import java.util.IdentityHashMap;
import java.util.List;
import java.util.Set;
import javax.tools.JavaCompiler;
import javax.tools.StandardJavaFileManager;
import javax.tools.ToolProvider;

/** What of the rules of LANGUAGE.md, and of the room that all calls share, a program can tell. */
public final class LanguageTest {
    private static final String PROGRAM = "src/main/java/CrankLayout.java";

    private static final Due DUE = new Due("LanguageTest");

    private static int objects;
    private static int elements;

    public static void main(String[] args) throws Exception {
        rulesHold();
        roomIsSmall();
        DUE.end();
    }

    private static void rulesHold() throws Exception {
        JavaCompiler compiler = ToolProvider.getSystemJavaCompiler();
        try (StandardJavaFileManager files = compiler.getStandardFileManager(null, null, null)) {
            JavacTask task = (JavacTask) compiler.getTask(null, files, null, List.of("-proc:none"),
                null, files.getJavaFileObjects(PROGRAM));
            CompilationUnitTree unit = task.parse().iterator().next();
            task.analyze();
            Rules rules = new Rules(DUE, Trees.instance(task), unit);
            DUE.holds("rule 4: no imports", unit.getImports().isEmpty());
            DUE.is("rule 1: classes of the file", unit.getTypeDecls().size(), 1);
            DUE.holds("rule 1: a class", unit.getTypeDecls().get(0) instanceof ClassTree);
            rules.scan(unit, null);
            rules.end();
        }
    }

    /** "some 600,000 objects and arrays, 7.3 million fields and elements in all" for one run */
    private static void roomIsSmall() throws Exception {
        CrankLayout x = new CrankLayout();
        measure(x);
        DUE.holds("a new layout has " + objects + " objects", objects <= 40);
        DUE.holds("and " + elements + " fields and elements", elements <= 600);
        int objectsAtFirst = objects;
        int elementsAtFirst = elements;
        CrankLayout full = Make.full();
        full.checksum();
        full.restore(0);
        measure(full);
        DUE.is("objects after calls", objects, objectsAtFirst);
        DUE.is("fields and elements after calls", elements, elementsAtFirst);
    }

    /** Counts all that can be reached from an object. */
    private static void measure(Object first) throws Exception {
        Set<Object> seen = Collections.newSetFromMap(new IdentityHashMap<>());
        Deque<Object> open = new ArrayDeque<>();
        objects = 0;
        elements = 0;
        open.push(first);
        while (!open.isEmpty()) {
            Object next = open.pop();
            if (!seen.add(next)) {
                continue;
            }
            objects++;
            if (next.getClass().isArray()) {
                elements += Array.getLength(next);
                continue;
            }
            for (Field field : next.getClass().getDeclaredFields()) {
                if (!Modifier.isStatic(field.getModifiers())) {
                    elements++;
                    field.setAccessible(true);
                    if (!field.getType().isPrimitive() && field.get(next) != null) {
                        open.push(field.get(next));
                    }
                }
            }
        }
    }
}
