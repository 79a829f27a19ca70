import java.lang.reflect.Constructor;
import java.lang.reflect.Field;
import java.lang.reflect.Method;
import java.lang.reflect.Modifier;
import java.util.Arrays;
import java.util.Set;
import java.util.TreeSet;

/** The constants, the public face (rule 1 of LANGUAGE.md) and a new object (promise 1). */
public final class FaceTest {
    private static final Due due = new Due();

    private static final String[] METHODS = {
        "set int int", "setUp int boolean", "write int int int", "delete int int", "read int int",
        "repair int int", "clear int", "plan int int int", "readPlan", "pass int", "type char",
        "clearText", "undo", "keep", "restore", "known int int int", "truth int int",
        "node int int", "pair int int int", "slowest", "graceNeeded", "event int int",
        "planned int int", "count int", "setting int",
    };

    public static void main(String[] args) {
        constants();
        face();
        newObject();
        due.end();
    }

    private static void constants() {
        due.is("UNKNOWN", KeyGraves.UNKNOWN, -1);
        due.is("BAD_VALUE", KeyGraves.BAD_VALUE, -2);
        due.is("FULL", KeyGraves.FULL, -3);
        due.is("NOT_POSSIBLE", KeyGraves.NOT_POSSIBLE, -4);
        due.is("NONE", KeyGraves.NONE, -5);
    }

    private static void face() {
        int type = KeyGraves.class.getModifiers();
        due.is("public", Modifier.isPublic(type) ? 1 : 0, 1);
        due.is("final", Modifier.isFinal(type) ? 1 : 0, 1);
        Set<String> publicNames = new TreeSet<>();
        Set<String> shown = new TreeSet<>();
        Set<String> hidden = new TreeSet<>();
        for (Method method : KeyGraves.class.getDeclaredMethods()) {
            if (Modifier.isPublic(method.getModifiers())) {
                StringBuilder line = new StringBuilder(method.getName());
                for (Class<?> each : method.getParameterTypes()) {
                    line.append(' ').append(each.getName());
                }
                shown.add(line.toString());
                publicNames.add(method.getName());
                due.is(line + " answers an int", method.getReturnType() == int.class ? 1 : 0, 1);
            } else {
                due.is(method + " is private", Modifier.isPrivate(method.getModifiers()) ? 1 : 0, 1);
                hidden.add(method.getName());
            }
        }
        due.is("the methods", shown.equals(new TreeSet<>(Arrays.asList(METHODS))) ? 1 : 0, 1);
        for (Class<?> inside : KeyGraves.class.getDeclaredClasses()) {
            due.is(inside + " is static", Modifier.isStatic(inside.getModifiers()) ? 1 : 0, 1);
            for (Method method : inside.getDeclaredMethods()) {
                hidden.add(method.getName());
            }
        }
        hidden.retainAll(publicNames);
        due.is("hidden methods with public names " + hidden, hidden.size(), 0);
        int constants = 0;
        for (Field field : KeyGraves.class.getDeclaredFields()) {
            if (Modifier.isPublic(field.getModifiers())) {
                constants++;
            } else {
                due.is(field + " is private", Modifier.isPrivate(field.getModifiers()) ? 1 : 0, 1);
            }
        }
        due.is("public constants", constants, 5);
        Constructor<?>[] constructors = KeyGraves.class.getDeclaredConstructors();
        due.is("constructors", constructors.length, 1);
        due.is("its parameters", constructors[0].getParameterCount(), 0);
    }

    private static void newObject() {
        KeyGraves x = new KeyGraves();
        for (int node = 0; node < 4; node++) {
            due.is("new: node up", x.node(node, 0), 1);
            for (int what = 1; what <= 5; what++) {
                due.is("new: node(" + node + ", " + what + ")", x.node(node, what), 0);
            }
            for (int key = 0; key < 8; key++) {
                due.is("new: known 0", x.known(node, key, 0), 0);
                due.is("new: known 1", x.known(node, key, 1), -5);
                due.is("new: known 2", x.known(node, key, 2), -5);
                due.is("new: known 3", x.known(node, key, 3), -5);
                due.is("new: known 4", x.known(node, key, 4), 0);
                due.is("new: known 5", x.known(node, key, 5), 0);
                due.is("new: known 6", x.known(node, key, 6), -5);
            }
            for (int other = 0; other < 4; other++) {
                if (other != node) {
                    due.is("new: pair 0", x.pair(node, other, 0), -5);
                    due.is("new: pair 1", x.pair(node, other, 1), 0);
                }
            }
        }
        for (int key = 0; key < 8; key++) {
            due.is("new: truth 0", x.truth(key, 0), 0);
            due.is("new: truth 1", x.truth(key, 1), -5);
            due.is("new: truth 2", x.truth(key, 2), 4);
            due.is("new: truth 3", x.truth(key, 3), 0);
            due.is("new: truth 4", x.truth(key, 4), 0);
        }
        int[] counts = {0, 0, 0, 0, 0, 0, 0, 0, 0, 4, 0, 0, 0};
        for (int what = 0; what < counts.length; what++) {
            due.is("new: count(" + what + ")", x.count(what), counts[what]);
        }
        int[] settings = {2, 2, 50, 0, 1};
        for (int which = 0; which < settings.length; which++) {
            due.is("new: setting(" + which + ")", x.setting(which), settings[which]);
        }
        due.is("new: slowest()", x.slowest(), 1);
        due.is("new: graceNeeded()", x.graceNeeded(), 1);
        due.is("new: event(0, 0)", x.event(0, 0), -5);
        due.is("new: planned(0, 0)", x.planned(0, 0), -5);
        due.is("new: undo()", x.undo(), -5);
        due.is("new: restore()", x.restore(), -5);
        due.is("new: clearText()", x.clearText(), 0);
        due.is("new: keep()", x.keep(), 0);
    }
}
