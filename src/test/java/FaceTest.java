import java.lang.reflect.Field;
import java.lang.reflect.Method;
import java.lang.reflect.Modifier;
import java.util.ArrayList;
import java.util.Collections;
import java.util.List;

/** The public face: every constant, the constructor and every method, and nothing else. */
public final class FaceTest {
    private static final String[] METHODS = {
        "int append(int)", "int balanced()", "int bestOff()", "int bestOrder()",
        "long checksum()", "int choose(int)", "int clearText()", "int counterPair(int,int)",
        "int counterWeight()", "int cylinder(int,int)", "int faultPosition()", "int find()",
        "int isMirrored()", "int load(int,int)", "int longestGap()", "int order(int,int)",
        "int orderCost(int,int)", "int orders()", "int peak(int)", "int restore(int)",
        "int save(int)", "int setCylinders(int)", "int setMass(int,int)", "int setPlace(int,int)",
        "int setStrokes(int)", "int setThrow(int,int)", "int setWeight(int,int,int)",
        "int turn(int,boolean)", "int vector(int,boolean,boolean)", "int weight(int,int)"};

    private static final Due DUE = new Due("FaceTest");

    public static void main(String[] args) throws Exception {
        constants();
        methods();
        DUE.holds("public and final", CrankLayout.class.getModifiers() == (Modifier.PUBLIC | Modifier.FINAL));
        DUE.is("constructors", CrankLayout.class.getDeclaredConstructors().length, 1);
        DUE.is("public constructors", CrankLayout.class.getConstructors().length, 1);
        DUE.end();
    }

    private static void constants() throws Exception {
        String[] names = {"BAD_INDEX", "BAD_VALUE", "NOT_POSSIBLE", "FULL", "NONE",
            "FORCE1", "MOMENT1", "FORCE2", "MOMENT2"};
        int[] values = {-1000001, -1000002, -1000003, -1000004, -1000005, 0, 1, 2, 3};
        int seen = 0;
        for (Field field : CrankLayout.class.getDeclaredFields()) {
            int modifiers = field.getModifiers();
            if (!Modifier.isPrivate(modifiers)) {
                seen++;
                DUE.is(field.getName(), modifiers, Modifier.PUBLIC | Modifier.STATIC | Modifier.FINAL);
                DUE.holds(field.getName() + " is an int", field.getType() == int.class);
            }
        }
        DUE.is("fields that are not private", seen, names.length);
        for (int i = 0; i < names.length; i++) {
            DUE.is(names[i], CrankLayout.class.getField(names[i]).getInt(null), values[i]);
        }
    }

    private static void methods() {
        List<String> found = new ArrayList<>();
        for (Method method : CrankLayout.class.getDeclaredMethods()) {
            if (!Modifier.isPrivate(method.getModifiers())) {
                DUE.is(method.getName(), method.getModifiers(), Modifier.PUBLIC);
                StringBuilder out = new StringBuilder();
                out.append(method.getReturnType()).append(' ').append(method.getName()).append('(');
                for (Class<?> type : method.getParameterTypes()) {
                    out.append(type).append(',');
                }
                String face = out.append(')').toString().replace(",)", ")");
                found.add(face.substring(face.indexOf(' ') + 1) + " " + face.substring(0, face.indexOf(' ')));
            }
        }
        List<String> wanted = new ArrayList<>();
        for (String face : METHODS) {
            wanted.add(face.substring(face.indexOf(' ') + 1) + " " + face.substring(0, face.indexOf(' ')));
        }
        Collections.sort(found);
        Collections.sort(wanted);
        DUE.holds("the methods " + found, found.equals(wanted));
    }
}
