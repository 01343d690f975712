import java.lang.reflect.Constructor;
import java.lang.reflect.Field;
import java.lang.reflect.Method;
import java.lang.reflect.Modifier;
import java.util.Arrays;
import java.util.TreeSet;

/**
 * The public face, its constants, and promise 1: a new object. The tests stand in the package of the class, so what is not
 * public would be found by them all the same: here it is asked by its modifiers.
 */
public final class FaceTest {
    private static final String FACE = "against(2) at(2) between(3) born(3) cut(3) divide(5) near(2) number(3) order(2)"
        + " pair(1) row(3) side(3) sum(4) take(2) term(4) told(3) value(2) wins(2) work(4)";

    private static final Check CHECK = new Check("FaceTest");

    public static void main(String[] args) {
        face();
        constructor();
        constants();
        inside();
        newObject();
        objectsAreApart();
        CHECK.end();
    }

    private static void holds(String what, boolean is) {
        CHECK.due(what, is ? 1 : 0, 1);
    }

    private static void face() {
        TreeSet<String> found = new TreeSet<>();
        for (Method method : BornNumbers.class.getDeclaredMethods()) {
            if (!Modifier.isPrivate(method.getModifiers())) {
                found.add(method.getName() + "(" + method.getParameterCount() + ")");
                call(method);
            }
        }
        CHECK.same("the public methods", String.join(" ", found), FACE);
        CHECK.same("the class", Modifier.toString(BornNumbers.class.getModifiers()), "public final");
        holds("it extends no other", BornNumbers.class.getSuperclass() == Object.class);
        CHECK.due("and implements none", BornNumbers.class.getInterfaces().length, 0);
    }

    private static void call(Method method) {
        CHECK.same("modifiers of " + method.getName(), Modifier.toString(method.getModifiers()), "public");
        holds(method.getName() + " answers int", method.getReturnType() == int.class);
        for (Class<?> type : method.getParameterTypes()) {
            holds(method.getName() + " takes ints", type == int.class);
        }
        CHECK.due(method.getName() + " declares exceptions", method.getExceptionTypes().length, 0);
    }

    private static void constructor() {
        Constructor<?>[] made = BornNumbers.class.getDeclaredConstructors();
        CHECK.due("constructors", made.length, 1);
        for (Constructor<?> one : made) {
            CHECK.same("modifiers of the constructor", Modifier.toString(one.getModifiers()), "public");
            CHECK.due("parameters of the constructor", one.getParameterCount(), 0);
            CHECK.due("exceptions of the constructor", one.getExceptionTypes().length, 0);
        }
    }

    private static void constants() {
        TreeSet<String> names = new TreeSet<>();
        for (Field field : BornNumbers.class.getDeclaredFields()) {
            if (!Modifier.isPrivate(field.getModifiers())) {
                names.add(field.getName());
                CHECK.same(field.getName(), Modifier.toString(field.getModifiers()), "public static final");
                holds(field.getName() + " is an int", field.getType() == int.class);
            }
        }
        CHECK.same("the public constants", names.toString(),
            new TreeSet<>(Arrays.asList("BAD", "NO", "FAR", "NONE", "HIGH")).toString());
        CHECK.due("BAD", BornNumbers.BAD, -1);
        CHECK.due("NO", BornNumbers.NO, -2);
        CHECK.due("FAR", BornNumbers.FAR, -3);
        CHECK.due("NONE", BornNumbers.NONE, -4);
        CHECK.due("HIGH", BornNumbers.HIGH, -5);
    }

    /** LANGUAGE.md, rules 1, 5 and 11, as far as the compiled class shows them. */
    private static void inside() {
        insideOf(BornNumbers.class);
        for (Class<?> own : BornNumbers.class.getDeclaredClasses()) {
            int modifiers = own.getModifiers();
            holds(own.getName() + " is private or package-visible",
                !Modifier.isPublic(modifiers) && !Modifier.isProtected(modifiers));
            holds(own.getName() + " is static", Modifier.isStatic(modifiers));
            insideOf(own);
        }
    }

    private static void insideOf(Class<?> owner) {
        int fields = 0;
        for (Field field : owner.getDeclaredFields()) {
            int modifiers = field.getModifiers();
            holds("no static field changes: " + field.getName(), !Modifier.isStatic(modifiers) || Modifier.isFinal(modifiers));
            fields += Modifier.isStatic(modifiers) ? 0 : 1;
        }
        holds(owner.getName() + " has at most twenty fields", fields <= 20);
        for (Method method : owner.getDeclaredMethods()) {
            holds(method.getName() + " takes at most seven", method.getParameterCount() <= 7);
            boolean named = (" " + FACE).contains(" " + method.getName() + "(");
            holds("no private " + method.getName(), !(named && Modifier.isPrivate(method.getModifiers())));
        }
    }

    private static void newObject() {
        BornNumbers x = new BornNumbers();
        for (int s = 0; s < 12; s++) {
            CHECK.due("at(" + s + ", -1)", x.at(s, -1), 0);
            CHECK.due("at(" + s + ", 0)", x.at(s, 0), -4);
            CHECK.same("value of register " + s, Reading.value(x, s), "0/2^0");
        }
        for (int z = 0; z < 8; z++) {
            CHECK.due("told(" + z + ", 0, 0)", x.told(z, 0, 0), -1000000004);
            CHECK.due("order(" + z + ", 0)", x.order(z, 0), 0);
        }
        CHECK.due("pair(0)", x.pair(0), -4);
        CHECK.due("pair(1)", x.pair(1), -4);
    }

    private static void objectsAreApart() {
        BornNumbers x = new BornNumbers();
        BornNumbers y = new BornNumbers();
        x.number(3, 5, 1);
        x.term(2, 1, 1, 0);
        x.cut(0, 8, 8);
        CHECK.same("another object", Reading.all(y), Reading.all(new BornNumbers()));
    }
}
