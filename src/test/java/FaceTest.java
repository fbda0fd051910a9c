import java.lang.reflect.Constructor;
import java.lang.reflect.Field;
import java.lang.reflect.Method;
import java.lang.reflect.Modifier;
import java.util.Arrays;
import java.util.TreeSet;

/** The public face, and promise 1: a new object. */
public final class FaceTest {
    private static final String[] METHODS = {
        "int make(int, int, int)", "int let(int)", "int drop(int)", "int kind(int)", "int length(int)",
        "int put(int, int, long)", "long get(int, int)", "int sum(int, int)", "int turn(int, int)",
        "int part(int, int)", "int lay(int, int, int)", "int weigh(int, int)", "int rigid(int, int)",
        "int fault(int, int)", "int raise(int, int)", "int copy(int, int, int, int, int)", "int copied()",
        "int move(int, int, int)", "int like(int, int)", "int told(int)"};
    private static final String[] CONSTANTS = {"BAD", "FULL", "GONE", "OUT", "OTHER", "STORE", "CAST", "BELOW"};

    public static void main(String[] args) {
        constants();
        members();
        aNewObject();
        objectsAreApart();
        Due.end();
    }

    private static void constants() {
        Due.is(MappingMoves.BAD, -1);
        Due.is(MappingMoves.FULL, -2);
        Due.is(MappingMoves.GONE, -11);
        Due.is(MappingMoves.OUT, -12);
        Due.is(MappingMoves.OTHER, -13);
        Due.is(MappingMoves.STORE, -14);
        Due.is(MappingMoves.CAST, -15);
        Due.is(MappingMoves.BELOW, -16);
    }

    private static void members() {
        Class<?> face = MappingMoves.class;
        Due.isTrue(Modifier.isPublic(face.getModifiers()) && Modifier.isFinal(face.getModifiers()), "public and final");
        TreeSet<String> methods = new TreeSet<>();
        TreeSet<String> privateNames = new TreeSet<>();
        TreeSet<String> publicNames = new TreeSet<>();
        for (Method method : face.getDeclaredMethods()) {
            if (Modifier.isPrivate(method.getModifiers())) {
                privateNames.add(method.getName());
            } else {
                publicNames.add(method.getName());
                Due.isTrue(Modifier.isPublic(method.getModifiers()) && !Modifier.isStatic(method.getModifiers()), method.toString());
                String arguments = Arrays.toString(method.getParameterTypes()).replace('[', '(').replace(']', ')');
                methods.add(method.getReturnType() + " " + method.getName() + arguments);
            }
        }
        Due.isTrue(methods.equals(new TreeSet<>(Arrays.asList(METHODS))), "methods: " + methods);
        privateNames.retainAll(publicNames);
        Due.isTrue(privateNames.isEmpty(), "private methods that bear a public one's name: " + privateNames);
        TreeSet<String> constants = new TreeSet<>();
        for (Field field : face.getDeclaredFields()) {
            if (!Modifier.isPrivate(field.getModifiers())) {
                constants.add(field.getName());
                Due.is(field.getModifiers(), Modifier.PUBLIC | Modifier.STATIC | Modifier.FINAL);
            }
        }
        Due.isTrue(constants.equals(new TreeSet<>(Arrays.asList(CONSTANTS))), "constants: " + constants);
        Constructor<?>[] constructors = face.getDeclaredConstructors();
        Due.is(constructors.length, 1);
        Due.isTrue(Modifier.isPublic(constructors[0].getModifiers()) && constructors[0].getParameterCount() == 0, "constructor");
    }

    private static void aNewObject() {
        MappingMoves x = new MappingMoves();
        for (int what = 0; what < 4; what++) {
            Due.is(x.told(what), 0);
        }
        Due.is(x.copied(), 0);
        for (int place = 0; place < 24; place++) {
            Due.is(x.kind(place), MappingMoves.GONE);
            Due.is(x.length(place), MappingMoves.GONE);
        }
        Due.is(x.fault(0, 0), MappingMoves.BAD);
        Due.is(x.part(0, 0), 0);
    }

    private static void objectsAreApart() {
        MappingMoves x = new MappingMoves();
        MappingMoves y = new MappingMoves();
        x.make(0, 3, 2);
        x.part(0, 1);
        Due.is(y.told(0), 0);
        Due.is(y.told(2), 0);
    }
}
