import java.lang.reflect.Constructor;
import java.lang.reflect.Field;
import java.lang.reflect.Method;
import java.lang.reflect.Modifier;
import java.util.ArrayList;
import java.util.Arrays;
import java.util.Collections;
import java.util.List;

/** The class has the document's face, and nothing else that can be seen from outside. */
public final class FaceTest {
    private static final String[] FACE = {
        "constructor()",
        "int UNKNOWN", "int BAD_VALUE", "int FULL", "int NOT_POSSIBLE", "int NONE",
        "int block(int)", "int digOut()", "int cord(int,int)", "int set(int,int)",
        "int swing(int)", "int stop()", "int load(int,int)", "int loadAll()", "int unload(int)",
        "int fire(int,int)", "int strike(int,boolean)", "int clean()", "int forget()",
        "int setLimit(int)", "int keepStandard(int,int)", "int dropStandard(int)",
        "int type(char)", "int clearText()", "int undo()", "int keep()", "int restore()",
        "int shot(int,int)", "int waiting(int,boolean)", "int would(int,int,int)",
        "int lengthOf(int)", "int series(int)", "int standard(int,int)", "int untilRest()",
        "int count(int)",
    };

    private FaceTest() {
    }

    public static void main(String[] args) {
        Due due = new Due();
        List<String> wanted = new ArrayList<>(Arrays.asList(FACE));
        List<String> seen = visibleMembers();
        Collections.sort(wanted);
        Collections.sort(seen);
        if (!wanted.equals(seen)) {
            System.out.println("due is " + wanted + "\nbut there is " + seen);
        }
        due.is("the face is as told", wanted.equals(seen) ? 1 : 0, 1);
        int modifiers = CaughtPellets.class.getModifiers();
        due.is("the class is public and final",
            modifiers & (Modifier.PUBLIC | Modifier.FINAL), Modifier.PUBLIC | Modifier.FINAL);
        due.of("The constants: `UNKNOWN = -1`: There is no such cord, shot or standard.");
        due.is("UNKNOWN", CaughtPellets.UNKNOWN, -1);
        due.of("`BAD_VALUE = -2`: Another argument is out of range.");
        due.is("BAD_VALUE", CaughtPellets.BAD_VALUE, -2);
        due.of("`FULL = -3`: There is no more room.");
        due.is("FULL", CaughtPellets.FULL, -3);
        due.of("`NOT_POSSIBLE = -4`: This is not possible.");
        due.is("NOT_POSSIBLE", CaughtPellets.NOT_POSSIBLE, -4);
        due.of("`NONE = -5`: There is no such thing; not an error.");
        due.is("NONE", CaughtPellets.NONE, -5);
        due.end();
    }

    private static List<String> visibleMembers() {
        List<String> seen = new ArrayList<>();
        for (Constructor<?> made : CaughtPellets.class.getDeclaredConstructors()) {
            if (!Modifier.isPrivate(made.getModifiers())) {
                seen.add("constructor" + typesOf(made.getParameterTypes()));
            }
        }
        for (Field field : CaughtPellets.class.getDeclaredFields()) {
            if (!Modifier.isPrivate(field.getModifiers())) {
                seen.add(field.getType().getSimpleName() + " " + field.getName());
            }
        }
        for (Method method : CaughtPellets.class.getDeclaredMethods()) {
            if (!Modifier.isPrivate(method.getModifiers()) && !method.isSynthetic()) {
                seen.add(method.getReturnType().getSimpleName() + " " + method.getName()
                    + typesOf(method.getParameterTypes()));
            }
        }
        return seen;
    }

    private static String typesOf(Class<?>[] types) {
        StringBuilder line = new StringBuilder("(");
        for (int i = 0; i < types.length; i++) {
            line.append(i == 0 ? "" : ",").append(types[i].getSimpleName());
        }
        return line.append(")").toString();
    }
}
