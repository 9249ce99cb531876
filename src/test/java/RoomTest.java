import java.io.IOException;
import java.lang.reflect.Array;
import java.lang.reflect.Field;
import java.lang.reflect.Method;
import java.lang.reflect.Modifier;
import java.nio.file.Files;
import java.nio.file.Path;
import java.util.ArrayDeque;
import java.util.ArrayList;
import java.util.Collections;
import java.util.Deque;
import java.util.IdentityHashMap;
import java.util.List;
import java.util.Set;

/**
 * What an object takes of the one room that all calls of a run live in, and
 * what LANGUAGE.md asks of classes, fields and methods. Run from the project's root.
 */
public final class RoomTest {
    private static final int CALLS = 512;
    private static final int MOST_OBJECTS = 600000;
    private static final int MOST_ELEMENTS = 7300000;
    private static final int MOST_FIELDS = 20;
    private static final int MOST_PARAMETERS = 7;
    /** A field's first value, or what a constructor sets: no call makes anything. */
    private static final String MAKING = " +(private )?final [^=;]+ = new .*;| +[a-z]+(\\[i\\])? = new [A-Z]\\w+\\(\\);";

    private final Due due = new Due();
    private int objects;
    private int elements;

    private RoomTest() {
    }

    public static void main(String[] args) throws IOException, IllegalAccessException {
        RoomTest test = new RoomTest();
        test.roomOfAnObject();
        test.noCallMakesAnything();
        test.classesFieldsAndMethods();
        test.due.end();
    }

    /** Even if each call of a run was a constructor, there is room. */
    private void roomOfAnObject() throws IllegalAccessException {
        Set<Object> seen = Collections.newSetFromMap(new IdentityHashMap<>());
        Deque<Object> open = new ArrayDeque<>();
        open.add(new CaughtPellets());
        while (!open.isEmpty()) {
            Object one = open.remove();
            if (seen.add(one)) {
                objects++;
                open.addAll(partsOf(one));
            }
        }
        System.out.println(objects + " objects and arrays, " + elements + " fields and elements");
        due.is("objects of all constructors", Math.max(objects * CALLS, MOST_OBJECTS), MOST_OBJECTS);
        due.is("elements of all constructors", Math.max(elements * CALLS, MOST_ELEMENTS), MOST_ELEMENTS);
    }

    /** Counts its fields or elements, and answers those of them that are objects or arrays. */
    private List<Object> partsOf(Object one) throws IllegalAccessException {
        List<Object> parts = new ArrayList<>();
        if (one.getClass().isArray()) {
            for (int i = 0; i < Array.getLength(one); i++) {
                note(parts, Array.get(one, i), one.getClass().getComponentType());
            }
            return parts;
        }
        for (Field field : one.getClass().getDeclaredFields()) {
            if (!Modifier.isStatic(field.getModifiers())) {
                field.setAccessible(true);
                note(parts, field.get(one), field.getType());
            }
        }
        return parts;
    }

    private void note(List<Object> parts, Object part, Class<?> type) {
        elements++;
        if (part != null && !type.isPrimitive()) {
            parts.add(part);
        }
    }

    private void noCallMakesAnything() throws IOException {
        for (String line : Files.readAllLines(Path.of("src/main/java/CaughtPellets.java"))) {
            if (line.matches("[^*]*\\bnew\\b.*")) {
                due.is("a constructor makes it: " + line, line.matches(MAKING) ? 1 : 0, 1);
            }
        }
    }

    private void classesFieldsAndMethods() {
        List<String> face = new ArrayList<>();
        for (Method method : CaughtPellets.class.getDeclaredMethods()) {
            if (Modifier.isPublic(method.getModifiers())) {
                face.add(method.getName());
            }
        }
        ofOneClass(CaughtPellets.class, face);
        for (Class<?> inside : CaughtPellets.class.getDeclaredClasses()) {
            int modifiers = inside.getModifiers();
            due.is(inside + " is static", Modifier.isStatic(modifiers) ? 1 : 0, 1);
            due.is(inside + " is seen from outside", modifiers & (Modifier.PUBLIC | Modifier.PROTECTED), 0);
            ofOneClass(inside, face);
        }
    }

    private void ofOneClass(Class<?> one, List<String> face) {
        int fields = 0;
        for (Field field : one.getDeclaredFields()) {
            int modifiers = field.getModifiers();
            fields += Modifier.isStatic(modifiers) ? 0 : 1;
            due.is(field + " may stand", !Modifier.isStatic(modifiers) || isConstant(field) ? 1 : 0, 1);
        }
        due.is("fields of " + one, Math.max(fields, MOST_FIELDS), MOST_FIELDS);
        for (Method method : one.getDeclaredMethods()) {
            due.is("parameters of " + method, Math.max(method.getParameterCount(), MOST_PARAMETERS), MOST_PARAMETERS);
            boolean isOfTheFace = one == CaughtPellets.class && Modifier.isPublic(method.getModifiers());
            due.is(method + " has a name of its own", isOfTheFace || !face.contains(method.getName()) ? 1 : 0, 1);
        }
    }

    private static boolean isConstant(Field field) {
        Class<?> type = field.getType().isArray() ? field.getType().getComponentType() : field.getType();
        boolean isAllowed = type == int.class || type == long.class || type == char.class
            || !field.getType().isArray() && (type == boolean.class || type == String.class);
        return Modifier.isFinal(field.getModifiers()) && isAllowed;
    }
}
