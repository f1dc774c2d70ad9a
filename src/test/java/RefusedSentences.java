import java.lang.reflect.InvocationTargetException;
import java.lang.reflect.Method;
import java.lang.reflect.Modifier;
import java.util.ArrayList;
import java.util.Arrays;
import java.util.Comparator;
import java.util.List;
import java.util.NoSuchElementException;

/**
 * Of two objects with the same calls behind them one gets a refused call more: both are then asked for
 * all that can be told of them, down to what can be UNDONE and taken BACK.
 */
final class RefusedSentences {
    private static final List<String> CHANGING = List.of(
            "feed", "end", "text", "wish", "rock", "saw", "heap", "drawn", "undo", "image", "back");
    private static final int[] OUT = {Integer.MIN_VALUE, -3, -2, -1, 0, 1, 4, 100, 101, 161, Integer.MAX_VALUE};

    private RefusedSentences() {
    }

    static void ask() {
        Sentence.of(0, "What is refused answers as told and changes nothing.");
        for (int state = 0; state < 4; state++) {
            for (Method method : methods()) {
                refuse(method, state);
            }
        }
    }

    private static Method[] methods() {
        List<Method> found = new ArrayList<>();
        for (Method method : RockingTable.class.getDeclaredMethods()) {
            if (Modifier.isPublic(method.getModifiers())) {
                found.add(method);
            }
        }
        found.sort(Comparator.comparing(Method::getName));
        return found.toArray(new Method[0]);
    }

    /** 0: no GARDEN; 1: a GARDEN, nothing else; 2: all there is; 3: all there is, with all that is full. */
    private static RockingTable made(int state) {
        RockingTable table = new RockingTable();
        for (int i = 0; i < (state == 3 ? 4 : state); i++) {
            Check.tape(table, "y:g*" + i + "+p");
            table.text(1);
        }
        if (state > 0) {
            Check.tape(table, "g9,2,3,1,3,2;tw1x2y3z99;ct2n3;ct5n1");
            table.text(0);
        }
        if (state > 1) {
            table.wish(1);
            table.heap(0, 8);
            table.image();
            table.rock(0, 1);
            for (int i = state == 3 ? 0 : 37; i < 41; i++) {
                table.heap(3, i);
                table.rock(i % 6, -1);
            }
            table.saw(1, 3);
        }
        Check.tape(table, state == 3 ? "y:" + "1+".repeat(78) + "1 " : "y:1=2");
        return table;
    }

    private static void refuse(Method method, int state) {
        Class<?>[] types = method.getParameterTypes();
        int ways = 1;
        for (int i = 0; i < types.length; i++) {
            ways *= types[i] == long.class || types.length > 3 ? 3 : OUT.length;
        }
        String untouched = null;
        for (int way = 0; way < ways; way++) {
            Object[] given = arguments(types, way);
            RockingTable table = made(state);
            Object answer = call(method, table, given);
            if (isRefused(method.getName(), answer)) {
                untouched = untouched == null ? all(made(state)) : untouched;
                Sentence.due(method.getName() + Arrays.toString(given) + " of object " + state + ", refused: all is as ahead of it",
                        all(table).equals(untouched), true);
            }
        }
    }

    private static Object[] arguments(Class<?>[] types, int way) {
        Object[] given = new Object[types.length];
        int rest = way;
        for (int i = 0; i < types.length; i++) {
            boolean few = types[i] == long.class || types.length > 3;
            int pick = few ? new int[] {Integer.MIN_VALUE, 1, Integer.MAX_VALUE}[rest % 3] : OUT[rest % OUT.length];
            rest /= few ? 3 : OUT.length;
            given[i] = types[i] == long.class ? (Object) (long) pick : (Object) pick;
        }
        return given;
    }

    /** What it answered; an exception's class, if it threw one. */
    private static Object call(Method method, RockingTable table, Object[] given) {
        try {
            return method.invoke(table, given);
        } catch (InvocationTargetException e) {
            Class<?> thrown = e.getCause().getClass();
            Sentence.due(method.getName() + Arrays.toString(given) + " threw " + thrown.getSimpleName(),
                    method.getName().equals("height") && thrown == NoSuchElementException.class, true);
            return thrown;
        } catch (IllegalAccessException e) {
            Sentence.due(method.getName() + " can be called", false, true);
            return null;
        }
    }

    /** Some of these are answers too: what only asks must not change anything anyhow. */
    private static boolean isRefused(String name, Object answer) {
        boolean asks = !CHANGING.contains(name);
        return asks || Boolean.FALSE.equals(answer) || answer instanceof Integer n && n == RockingTable.NONE;
    }

    /** All that can be told of an object; it is another one behind it. */
    private static String all(RockingTable table) {
        StringBuilder told = new StringBuilder();
        tell(told, table);
        told.append(" faults ").append(table.fault(0)).append(' ').append(table.fault(1));
        for (int i = 0; i < 42; i++) {
            told.append(" undo ").append(table.undo());
            ground(told, table);
        }
        told.append(" back ").append(table.back());
        ground(told, table);
        for (int i = table.count(4); i > 0; i--) {
            table.end(i);
            told.append(' ').append(table.fault(0)).append(' ').append(table.fault(1));
        }
        for (int i = 0; i < 4; i++) {
            told.append(" wish ").append(table.wish(i)).append(' ').append(table.best(0)).append(' ').append(table.best(1));
        }
        return told.toString();
    }

    private static void tell(StringBuilder told, RockingTable table) {
        for (int what = 0; what < 8; what++) {
            told.append(" count ").append(table.count(what));
        }
        ground(told, table);
        for (int sort = 0; sort < 4; sort++) {
            told.append(" card ").append(table.card(sort, 0)).append(' ').append(table.card(sort, 1));
        }
        told.append(" best ").append(table.best(0)).append(' ').append(table.best(1));
        for (int leg = 0; leg < 4; leg++) {
            told.append(" shorts ").append(table.shorts(leg, 0)).append(' ').append(table.shorts(leg, 1));
        }
        told.append(" angles ").append(table.angles());
        for (int p = 0; p < 6; p++) {
            told.append(" wedges ").append(table.wedges(p, -1)).append(' ').append(table.piles(p));
            told.append(" heights ").append(table.heights(p, 0)).append(' ').append(table.heights(p, 2));
        }
    }

    private static void ground(StringBuilder told, RockingTable table) {
        for (int point = 0; point < table.count(0); point++) {
            told.append(' ').append(table.height(point)).append(' ').append(table.gap(point)).append(' ').append(table.tilt(point));
        }
        told.append(" less ").append(table.less());
    }
}
