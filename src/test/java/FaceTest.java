import java.lang.reflect.Constructor;
import java.lang.reflect.Field;
import java.lang.reflect.Method;
import java.lang.reflect.Modifier;
import java.util.ArrayList;
import java.util.Collections;
import java.util.HashSet;
import java.util.List;
import java.util.Set;

/** The public face, and rule 1 of the language: nothing but it can be seen from outside. */
public final class FaceTest {
    private static final String[] METHODS = {
        "at(int):int", "ask(int,int):int", "compare(int,int):int", "differ(int):int",
        "extent(int,int):int", "letter(int,int):int", "level(int,int):int", "merge():int",
        "move(int,int):int", "name(int,int):int", "named(int,int):int", "place():int",
        "print():int", "published(int,boolean):int", "read():int", "restrict(int,int,int):int",
        "restricted(int,int):int", "sign(int):void", "take(int):int", "twice(int):int",
        "was(int,int):int",
    };

    public static void main(String[] args) throws NoSuchMethodException {
        Due due = new Due();
        due.same("NONE", FindingAid.NONE, -1);
        due.same("RANGE", FindingAid.RANGE, -2);
        due.same("STATE", FindingAid.STATE, -3);
        due.same("FULL", FindingAid.FULL, -4);
        int modifiers = FindingAid.class.getModifiers();
        due.same("public final", modifiers & (Modifier.PUBLIC | Modifier.FINAL), Modifier.PUBLIC | Modifier.FINAL);
        due.same("methods", methods(), sorted(List.of(METHODS)));
        due.same("fields", fields(), "FULL\nNONE\nRANGE\nSTATE\n");
        due.same("constructors", constructors(), "public0\n");
        due.same("private methods with a public name", namesUsedAgain(), "");
        for (String name : new String[] {"read", "merge"}) {
            Class<?>[] thrown = FindingAid.class.getMethod(name).getExceptionTypes();
            due.same(name + " declares", thrown.length == 1 && thrown[0] == IllegalStateException.class ? 1 : 0, 1);
        }
        due.end();
    }

    private static String methods() {
        List<String> seen = new ArrayList<>();
        for (Method m : FindingAid.class.getDeclaredMethods()) {
            if (!Modifier.isPrivate(m.getModifiers())) {
                List<String> types = new ArrayList<>();
                for (Class<?> c : m.getParameterTypes()) {
                    types.add(c.getName());
                }
                seen.add(m.getName() + "(" + String.join(",", types) + "):" + m.getReturnType().getName());
            }
        }
        return sorted(seen);
    }

    private static String fields() {
        List<String> seen = new ArrayList<>();
        for (Field f : FindingAid.class.getDeclaredFields()) {
            if (!Modifier.isPrivate(f.getModifiers())) {
                seen.add(f.getName());
            }
        }
        return sorted(seen);
    }

    private static String constructors() {
        List<String> seen = new ArrayList<>();
        for (Constructor<?> c : FindingAid.class.getDeclaredConstructors()) {
            seen.add(Modifier.toString(c.getModifiers()) + c.getParameterCount());
        }
        return sorted(seen);
    }

    private static String namesUsedAgain() {
        Set<String> face = new HashSet<>();
        for (String method : METHODS) {
            face.add(method.substring(0, method.indexOf('(')));
        }
        List<String> again = new ArrayList<>();
        for (Method m : FindingAid.class.getDeclaredMethods()) {
            if (Modifier.isPrivate(m.getModifiers()) && face.contains(m.getName())) {
                again.add(m.getName());
            }
        }
        for (Class<?> inside : FindingAid.class.getDeclaredClasses()) {
            for (Method m : inside.getDeclaredMethods()) {
                if (Modifier.isPrivate(m.getModifiers()) && face.contains(m.getName())) {
                    again.add(inside.getSimpleName() + "." + m.getName());
                }
            }
        }
        return sorted(again);
    }

    private static String sorted(List<String> lines) {
        List<String> copy = new ArrayList<>(lines);
        Collections.sort(copy);
        StringBuilder all = new StringBuilder();
        for (String line : copy) {
            all.append(line).append('\n');
        }
        return all.toString();
    }
}
