import java.lang.reflect.Constructor;
import java.lang.reflect.Field;
import java.lang.reflect.Method;
import java.lang.reflect.Modifier;
import java.util.ArrayList;
import java.util.List;
import java.util.Set;
import java.util.TreeMap;
import java.util.TreeSet;

/** The public face: what the document tells, and nothing else that is not private. */
public final class FaceTest {
    private static final Due DUE = new Due("FaceTest");
    private static final String[] METHODS = {
        "int setKey(int,int,int)", "int removeKey(int,int)", "int moveKey(int,int,int)", "int setMode(int,int,int)",
        "int setSlopes(int,int,int,int)", "int split(int,int)", "int clear(int)", "int setExtrapolation(int,int,int)",
        "int keys(int)", "int frameOf(int,int)", "int valueOf(int,int)", "int modeOf(int,int)",
        "int slope(int,int,boolean)", "int value(int,int)", "float units(int,int)", "double mean(int,int,int)",
        "int extreme(int,int,int,boolean)", "int crossings(int,int,int,int)", "int addPoint(int,int)", "int clearMap()",
        "int mapped(int)", "int retime(int)", "int bake(int,int,int,int)", "int bakeFormula(int,int,int,int)",
        "int polyline(int,int,int,int,int)", "int decimate(int,int)", "int append(int)", "int clearText()",
        "int faultPosition(boolean)", "int readCurve(int)", "int readFormula()", "int mix(int)", "int undo()",
        "long checksum()"};

    public static void main(String[] args) throws Exception {
        constants();
        methods();
        DUE.finish();
    }

    private static void constants() throws Exception {
        TreeMap<String, Integer> wanted = new TreeMap<>();
        String[] errors = {"BAD_INDEX", "BAD_VALUE", "FULL", "NOT_POSSIBLE", "NONE"};
        for (int i = 0; i < errors.length; i++) {
            wanted.put(errors[i], -1000000001 - i);
        }
        String[] modes = {"FREE", "FLAT", "LINEAR", "AUTO", "CLAMPED", "MONOTONE", "HOLD"};
        for (int i = 0; i < modes.length; i++) {
            wanted.put(modes[i], i);
        }
        String[] kinds = {"CONSTANT", "SLOPE", "CYCLE", "BOUNCE", "OFFSET"};
        for (int i = 0; i < kinds.length; i++) {
            wanted.put(kinds[i], i);
        }
        TreeMap<String, Integer> found = new TreeMap<>();
        for (Field f : KeyframeCurves.class.getDeclaredFields()) {
            boolean isConstant = Modifier.isPublic(f.getModifiers()) && Modifier.isStatic(f.getModifiers())
                    && Modifier.isFinal(f.getModifiers()) && f.getType() == int.class;
            DUE.holds(f.getName() + " is private or a public constant", Modifier.isPrivate(f.getModifiers()) || isConstant);
            if (isConstant) {
                found.put(f.getName(), f.getInt(null));
            }
        }
        DUE.holds("the constants are " + found, found.equals(wanted));
    }

    private static void methods() {
        Set<String> wanted = new TreeSet<>(List.of(METHODS));
        Set<String> found = new TreeSet<>();
        Set<String> publicNames = new TreeSet<>();
        List<String> privateNames = new ArrayList<>();
        for (Method m : KeyframeCurves.class.getDeclaredMethods()) {
            if (Modifier.isPublic(m.getModifiers())) {
                found.add(signature(m));
                publicNames.add(m.getName());
            } else {
                DUE.holds(m.getName() + " is private", Modifier.isPrivate(m.getModifiers()));
                privateNames.add(m.getName());
            }
        }
        DUE.holds("the methods are " + found, found.equals(wanted));
        for (Class<?> inner : KeyframeCurves.class.getDeclaredClasses()) {
            DUE.holds(inner + " is static", Modifier.isStatic(inner.getModifiers()));
            DUE.holds(inner + " is not public", !Modifier.isPublic(inner.getModifiers()) && !Modifier.isProtected(inner.getModifiers()));
            for (Method m : inner.getDeclaredMethods()) {
                privateNames.add(m.getName());
            }
        }
        for (String name : privateNames) {
            DUE.holds(name + " is no name of a public method", !publicNames.contains(name));
        }
        Constructor<?>[] made = KeyframeCurves.class.getDeclaredConstructors();
        DUE.is("constructors", made.length, 1);
        DUE.is("parameters of the constructor", made[0].getParameterCount(), 0);
        DUE.holds("the constructor is public", Modifier.isPublic(made[0].getModifiers()));
        DUE.holds("the class is public and final", Modifier.isPublic(KeyframeCurves.class.getModifiers())
                && Modifier.isFinal(KeyframeCurves.class.getModifiers()));
        DUE.holds("the class has no package", KeyframeCurves.class.getPackageName().isEmpty());
        DUE.holds("at most twelve classes", KeyframeCurves.class.getDeclaredClasses().length < 12);
        fewFields(KeyframeCurves.class);
        for (Class<?> inner : KeyframeCurves.class.getDeclaredClasses()) {
            fewFields(inner);
        }
    }

    private static void fewFields(Class<?> type) {
        int fields = 0;
        for (Field f : type.getDeclaredFields()) {
            fields += Modifier.isStatic(f.getModifiers()) ? 0 : 1;
            DUE.holds(type + ": " + f.getName() + " is final, if static",
                    !Modifier.isStatic(f.getModifiers()) || Modifier.isFinal(f.getModifiers()));
        }
        DUE.holds(type + " has at most twenty fields beside its constants", fields <= 20);
    }

    private static String signature(Method m) {
        StringBuilder s = new StringBuilder(m.getReturnType().getName()).append(' ').append(m.getName()).append('(');
        for (Class<?> type : m.getParameterTypes()) {
            s.append(s.charAt(s.length() - 1) == '(' ? "" : ",").append(type.getName());
        }
        return s.append(')').toString();
    }
}
