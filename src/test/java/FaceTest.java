import java.lang.reflect.Constructor;
import java.lang.reflect.Field;
import java.lang.reflect.Method;
import java.lang.reflect.Modifier;
import java.util.Arrays;
import java.util.TreeSet;

/** The class shows the document's face, and nothing else. */
public final class FaceTest {
    private static final String[] FACE = {
        "int feed(int,int,int,int,int)", "boolean end(int)", "int fault(int)", "int text(int)",
        "int height(int)", "int shorter(int)", "int card(int,int)", "boolean wish(int)", "int gap(int)",
        "int tilt(int)", "int stands(int,int)", "long level(int)", "int within(int,int,int)",
        "int best(int)", "int sawn(int,int)", "int less()", "int wedges(int,int)", "int rock(int,int)",
        "int shorts(int,int)", "int heights(int,int)", "int angles()", "int steady(int)",
        "int likely(int,int,int)", "int jug(int,int)", "int soup(int,int)", "int serves(int)",
        "int rocky(int)", "int cheap(int,int,int,int)", "int piles(int)",
        "int trial(int,long,int,int)", "int flip(int)", "int plane(int)", "int saw(int,int)",
        "int heap(int,int)", "int drawn(long,int)", "int undo()", "int image()", "int back()",
        "int count(int)"
    };

    private FaceTest() {
    }

    public static void main(String[] args) {
        TreeSet<String> shown = new TreeSet<>();
        TreeSet<String> publicNames = new TreeSet<>();
        for (Method method : RockingTable.class.getDeclaredMethods()) {
            if (!Modifier.isPrivate(method.getModifiers())) {
                shown.add(form(method));
                publicNames.add(method.getName());
            }
        }
        Check.due("the methods are those of the face: " + shown, shown.equals(new TreeSet<>(Arrays.asList(FACE))), true);
        privateNames(RockingTable.class, publicNames);
        TreeSet<String> constants = new TreeSet<>();
        for (Field field : RockingTable.class.getDeclaredFields()) {
            if (!Modifier.isPrivate(field.getModifiers())) {
                constants.add(field.getName());
            }
        }
        Check.due("the constants are those of the face: " + constants, constants.toString().equals("[HIDDEN, NONE]"), true);
        Check.due("NONE", RockingTable.NONE, -1);
        Check.due("HIDDEN", RockingTable.HIDDEN, -1000000);
        Constructor<?>[] made = RockingTable.class.getDeclaredConstructors();
        Check.due("one constructor, without parameters", made.length == 1 && made[0].getParameterCount() == 0, true);
        Check.due("the class is public and final",
                (RockingTable.class.getModifiers() & (Modifier.PUBLIC | Modifier.FINAL)), Modifier.PUBLIC | Modifier.FINAL);
        Check.finish("FaceTest");
    }

    private static void privateNames(Class<?> one, TreeSet<String> publicNames) {
        for (Method method : one.getDeclaredMethods()) {
            boolean isFace = one == RockingTable.class && !Modifier.isPrivate(method.getModifiers());
            Check.due(one.getName() + "." + method.getName() + " bears a name of the face",
                    !isFace && publicNames.contains(method.getName()), false);
            Check.due(method.getName() + " has at most seven parameters", method.getParameterCount() <= 7, true);
        }
        for (Class<?> inside : one.getDeclaredClasses()) {
            Check.due(inside.getName() + " is static", Modifier.isStatic(inside.getModifiers()), true);
            privateNames(inside, publicNames);
        }
    }

    private static String form(Method method) {
        StringBuilder form = new StringBuilder(method.getReturnType() + " " + method.getName() + "(");
        for (int i = 0; i < method.getParameterTypes().length; i++) {
            form.append(i == 0 ? "" : ",").append(method.getParameterTypes()[i]);
        }
        return form.append(")").toString();
    }
}
