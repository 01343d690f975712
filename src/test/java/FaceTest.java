import java.lang.reflect.Constructor;
import java.lang.reflect.Field;
import java.lang.reflect.Method;
import java.lang.reflect.Modifier;
import java.util.Arrays;
import java.util.TreeSet;

/** The public face, its constants, and promise 1: a new object. */
public final class FaceTest {
    private static final String FACE = "against(2) at(2) between(3) born(3) cut(3) divide(5) near(2) number(3) order(2)"
        + " pair(1) row(3) side(3) sum(4) take(2) term(4) told(3) value(2) wins(2) work(4)";

    private static final Check CHECK = new Check("FaceTest");

    public static void main(String[] args) {
        face();
        constants();
        newObject();
        objectsAreApart();
        CHECK.end();
    }

    private static void face() {
        TreeSet<String> found = new TreeSet<>();
        TreeSet<String> hidden = new TreeSet<>();
        for (Method method : BornNumbers.class.getDeclaredMethods()) {
            if (Modifier.isPrivate(method.getModifiers())) {
                hidden.add(method.getName());
            } else {
                found.add(method.getName() + "(" + method.getParameterCount() + ")");
                CHECK.due(method.getName() + " answers int", method.getReturnType() == int.class ? 1 : 0, 1);
                CHECK.due(method.getName() + " is public", Modifier.isPublic(method.getModifiers()) ? 1 : 0, 1);
            }
        }
        CHECK.same("the public methods", String.join(" ", found), FACE);
        for (String name : hidden) {
            CHECK.due("a private " + name, FACE.contains(name + "(") ? 1 : 0, 0);
        }
        for (Constructor<?> made : BornNumbers.class.getDeclaredConstructors()) {
            CHECK.due("parameters of the constructor", made.getParameterCount(), 0);
        }
        CHECK.due("the class is final", Modifier.isFinal(BornNumbers.class.getModifiers()) ? 1 : 0, 1);
    }

    private static void constants() {
        TreeSet<String> names = new TreeSet<>();
        for (Field field : BornNumbers.class.getDeclaredFields()) {
            if (!Modifier.isPrivate(field.getModifiers())) {
                names.add(field.getName());
            }
        }
        CHECK.same("the public constants", names.toString(),
            new TreeSet<>(Arrays.asList("BAD", "NO", "FAR", "NONE", "HIGH")).toString());
        CHECK.due("BAD", BornNumbers.BAD, -1);
        CHECK.due("NO", BornNumbers.NO, -2);
        CHECK.due("FAR", BornNumbers.FAR, -3);
        CHECK.due("NONE", BornNumbers.NONE, -4);
        CHECK.due("HIGH", BornNumbers.HIGH, -5);
    }

    private static void newObject() {
        BornNumbers x = new BornNumbers();
        for (int s = 0; s < 12; s++) {
            CHECK.due("at(" + s + ", -1)", x.at(s, -1), 0);
            CHECK.due("at(" + s + ", 0)", x.at(s, 0), -4);
            CHECK.same("value of register " + s, Reading.value(x, s), "0/2^0");
        }
        for (int z = 0; z < 8; z++) {
            CHECK.due("told(" + z + ", 0, 0)", x.told(z, 0, 0), -1000000004);
            CHECK.due("order(" + z + ", 0)", x.order(z, 0), 0);
        }
        CHECK.due("pair(0)", x.pair(0), -4);
        CHECK.due("pair(1)", x.pair(1), -4);
    }

    private static void objectsAreApart() {
        BornNumbers x = new BornNumbers();
        BornNumbers y = new BornNumbers();
        x.number(3, 5, 1);
        x.term(2, 1, 1, 0);
        x.cut(0, 8, 8);
        CHECK.same("another object", Reading.all(y), Reading.all(new BornNumbers()));
    }
}
