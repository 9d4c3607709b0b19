import java.lang.reflect.Constructor;
import java.lang.reflect.Field;
import java.lang.reflect.Method;
import java.lang.reflect.Modifier;
import java.util.Arrays;
import java.util.Map;
import java.util.TreeMap;

/** The public face: all that the document names, and nothing else. */
public final class FaceTest {
    private static final Expect expect = new Expect("FaceTest");
    private static final String I = "IndexOutOfBoundsException ";
    private static final String A = "IllegalArgumentException ";
    private static final String S = "IllegalStateException ";

    private static Map<String, String> face() {
        Map<String, String> face = new TreeMap<>();
        face.put("append(int)", A + S);
        face.put("clearText()", "");
        face.put("errorPosition()", "");
        face.put("load()", S);
        face.put("about(int)", A);
        face.put("pin(int,int)", I + A);
        face.put("frame(int,int)", I + A);
        face.put("taken(int)", I);
        face.put("setting(int)", A);
        face.put("begin()", "");
        face.put("roll(int,int,int,boolean)", A + S);
        face.put("touch(int,int)", I + A + S);
        face.put("set(int,int)", A);
        face.put("undo()", S);
        face.put("would(int,int,int)", A);
        face.put("bestBoard(int)", A);
        face.put("slowest()", "");
        face.put("goesOn(int,int)", A);
        face.put("drops()", "");
        face.put("runScript(int,long)", A);
        face.put("simulate(long,int)", A);
        face.put("save(int)", I);
        face.put("restore(int)", I + S);
        return face;
    }

    private static String names(Class<?>[] classes, String end) {
        StringBuilder all = new StringBuilder();
        for (Class<?> c : classes) {
            all.append(c.getSimpleName()).append(end);
        }
        return all.toString();
    }

    private static String signature(Method method) {
        String types = names(method.getParameterTypes(), ",");
        return method.getName() + "(" + types.substring(0, Math.max(0, types.length() - 1)) + ")";
    }

    private static void methods() {
        Map<String, String> got = new TreeMap<>();
        for (Method method : PinDeck.class.getDeclaredMethods()) {
            if (Modifier.isPrivate(method.getModifiers())) {
                continue;
            }
            expect.same(method + " public, not static", Modifier.PUBLIC, method.getModifiers());
            expect.holds(method + " answers an int", method.getReturnType() == int.class);
            got.put(signature(method), names(method.getExceptionTypes(), " "));
        }
        expect.holds("the methods are " + got + ", due are " + face(), got.equals(face()));
    }

    private static void rest() throws ReflectiveOperationException {
        expect.same("the class", Modifier.PUBLIC | Modifier.FINAL, PinDeck.class.getModifiers());
        expect.holds("the class is without a package", PinDeck.class.getPackageName().isEmpty());
        expect.holds("the class extends and implements nothing",
                PinDeck.class.getSuperclass() == Object.class && PinDeck.class.getInterfaces().length == 0);
        Constructor<?>[] made = PinDeck.class.getDeclaredConstructors();
        expect.holds("one public constructor without parameters, which throws nothing",
                made.length == 1 && made[0].getParameterCount() == 0 && Modifier.isPublic(made[0].getModifiers())
                        && made[0].getExceptionTypes().length == 0);
        for (Field field : PinDeck.class.getDeclaredFields()) {
            expect.holds(field + " is private, or NONE",
                    Modifier.isPrivate(field.getModifiers()) || field.getName().equals("NONE"));
            expect.holds(field + " is final", Modifier.isFinal(field.getModifiers()));
        }
        Field none = PinDeck.class.getField("NONE");
        expect.same("NONE is public, static and final", Modifier.PUBLIC | Modifier.STATIC | Modifier.FINAL,
                none.getModifiers());
        expect.holds("NONE is an int", none.getType() == int.class);
        expect.same("NONE", -1, none.getInt(null));
        for (Class<?> inner : PinDeck.class.getDeclaredClasses()) {
            int kind = inner.getModifiers();
            expect.holds(inner + " is static and not public",
                    Modifier.isStatic(kind) && !Modifier.isPublic(kind) && !Modifier.isProtected(kind));
            for (Method method : inner.getDeclaredMethods()) {
                boolean named = face().keySet().stream().anyMatch(s -> s.startsWith(method.getName() + "("));
                expect.holds(method + " has a name of its own", !named);
            }
        }
        expect.holds("there are classes inside", !Arrays.asList(PinDeck.class.getDeclaredClasses()).isEmpty());
    }

    public static void main(String[] args) throws ReflectiveOperationException {
        methods();
        rest();
        expect.end();
    }
}
