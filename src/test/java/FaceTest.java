import java.lang.reflect.Constructor;
import java.lang.reflect.Field;
import java.lang.reflect.Method;
import java.lang.reflect.Modifier;
import java.util.Arrays;
import java.util.TreeSet;

/** The public face, and promise 1: a new object. */
public final class FaceTest {
    private static final String[] METHODS = {
        "int make(int, int, int)", "int let(int)", "int drop(int)", "int kind(int)", "int length(int)",
        "int put(int, int, long)", "long get(int, int)", "int sum(int, int)", "int turn(int, int)",
        "int part(int, int)", "int lay(int, int, int)", "int weigh(int, int)", "int rigid(int, int)",
        "int fault(int, int)", "int raise(int, int)", "int copy(int, int, int, int, int)", "int copied()",
        "int move(int, int, int)", "int like(int, int)", "int told(int)"};
    private static final String[] CONSTANTS = {"BAD", "FULL", "GONE", "OUT", "OTHER", "STORE", "CAST", "BELOW"};

    public static void main(String[] args) {
        constants();
        members();
        exceptions();
        noColumns();
        noParts();
        nothingCopied();
        objectsAreApart();
        Due.end();
    }

    private static void constants() {
        Due.sentence("The public face", "BAD = -1, FULL = -2, GONE = -11, OUT = -12, OTHER = -13, STORE = -14, CAST = -15, BELOW = -16");
        Due.is(MappingMoves.BAD, -1);
        Due.is(MappingMoves.FULL, -2);
        Due.is(MappingMoves.GONE, -11);
        Due.is(MappingMoves.OUT, -12);
        Due.is(MappingMoves.OTHER, -13);
        Due.is(MappingMoves.STORE, -14);
        Due.is(MappingMoves.CAST, -15);
        Due.is(MappingMoves.BELOW, -16);
    }

    private static void members() {
        Due.sentence("The public face", "public final class MappingMoves");
        Class<?> face = MappingMoves.class;
        Due.isTrue(Modifier.isPublic(face.getModifiers()) && Modifier.isFinal(face.getModifiers()), "public and final");
        TreeSet<String> methods = new TreeSet<>();
        TreeSet<String> privateNames = new TreeSet<>();
        TreeSet<String> publicNames = new TreeSet<>();
        for (Method method : face.getDeclaredMethods()) {
            if (Modifier.isPrivate(method.getModifiers())) {
                privateNames.add(method.getName());
            } else {
                publicNames.add(method.getName());
                Due.isTrue(Modifier.isPublic(method.getModifiers()) && !Modifier.isStatic(method.getModifiers()), method.toString());
                String arguments = Arrays.toString(method.getParameterTypes()).replace('[', '(').replace(']', ')');
                methods.add(method.getReturnType() + " " + method.getName() + arguments);
            }
        }
        Due.isTrue(methods.equals(new TreeSet<>(Arrays.asList(METHODS))), "methods: " + methods);
        privateNames.retainAll(publicNames);
        Due.isTrue(privateNames.isEmpty(), "private methods that bear a public one's name: " + privateNames);
        TreeSet<String> constants = new TreeSet<>();
        for (Field field : face.getDeclaredFields()) {
            if (!Modifier.isPrivate(field.getModifiers())) {
                constants.add(field.getName());
                Due.is(field.getModifiers(), Modifier.PUBLIC | Modifier.STATIC | Modifier.FINAL);
            }
        }
        Due.isTrue(constants.equals(new TreeSet<>(Arrays.asList(CONSTANTS))), "constants: " + constants);
        Constructor<?>[] constructors = face.getDeclaredConstructors();
        Due.is(constructors.length, 1);
        Due.isTrue(Modifier.isPublic(constructors[0].getModifiers()) && constructors[0].getParameterCount() == 0, "constructor");
    }

    private static void exceptions() {
        Due.sentence("The public face", "throws NullPointerException, ArrayIndexOutOfBoundsException");
        for (Method method : MappingMoves.class.getDeclaredMethods()) {
            if (Modifier.isPublic(method.getModifiers())) {
                String declared = Arrays.toString(method.getExceptionTypes());
                String due = method.getName().equals("get")
                        ? "[class java.lang.NullPointerException, class java.lang.ArrayIndexOutOfBoundsException]" : "[]";
                Due.same(method.getName() + " throws " + declared, method.getName() + " throws " + due);
            }
        }
    }

    private static void noColumns() {
        Due.sentence("Promise 1", "No COLUMNS");
        MappingMoves x = new MappingMoves();
        Due.is(x.told(0), 0);
        Due.is(x.told(1), 0);
        for (int place = 0; place < 24; place++) {
            Due.is(x.kind(place), MappingMoves.GONE);
            Due.is(x.length(place), MappingMoves.GONE);
            Due.is(x.let(place), MappingMoves.GONE);
            Due.is(x.drop(place), 0);
            Due.getThrows(x, place, 0, NullPointerException.class);
        }
    }

    private static void noParts() {
        Due.sentence("Promise 1", "no PARTS");
        MappingMoves x = new MappingMoves();
        Due.is(x.told(2), 0);
        Due.is(x.told(3), 0);
        x.make(0, 7, 1);
        for (int part = 0; part < 40; part++) {
            Due.is(x.fault(part, 0), MappingMoves.BAD);
            Due.is(x.lay(0, 0, part), MappingMoves.BAD);
        }
        Due.is(x.part(0, 0), 0);
    }

    private static void nothingCopied() {
        Due.sentence("Promise 1", "A new object");
        Due.is(new MappingMoves().copied(), 0);
    }

    private static void objectsAreApart() {
        Due.sentence("Promise 1", "No COLUMNS, no PARTS");
        MappingMoves x = Scene.scene();
        MappingMoves y = new MappingMoves();
        MappingMoves z = Scene.scene();
        Due.same(Scene.everything(y), Scene.everything(new MappingMoves()));
        Due.same(Scene.everything(x), Scene.everything(z));
    }
}
