import java.lang.reflect.InvocationTargetException;
import java.lang.reflect.Method;
import java.lang.reflect.Modifier;
import java.util.ArrayList;
import java.util.Arrays;
import java.util.Comparator;
import java.util.List;
import java.util.Random;

// Any arguments in any state: a call throws what its face names, by a throw of its own, and nothing else;
// and a call that throws changes nothing.
public final class WildTest {
    private static final int[] EDGES = {Integer.MIN_VALUE, Integer.MAX_VALUE, -1, 0, 1, 2, 3, 4, 5, 9, 10, 19, 20, 99, 100,
        300, 301, 9999, 10000, 20000, 20001};
    private static final String[] SETUPS = {"box 4 999 50000 -50000 50000 -50000;unknown 100000000;warm unknown 4000 999 0;"
        + "warm box 4000 999 99;leads 99999 99999 99999;supply 20000 1000000;detector 9999999 9999 999 -99999",
        "box 0 0 0 0;unknown 1000;supply 20000 1000000;warm unknown -4000 999 0;warm box -4000 999 0",
        "box 2 0 0 0 0;unknown 37000;supply 100 1000000;detector 1 9999 999 5;seed 99999",
        "box 0 0 0 0;unknown 1000;supply 0 1"};

    public static void main(String[] args) throws IllegalAccessException {
        List<Method> face = new ArrayList<>();
        for (Method method : DecadeBridge.class.getDeclaredMethods()) {
            if (Modifier.isPublic(method.getModifiers())) {
                face.add(method);
            }
        }
        face.sort(Comparator.comparing(Method::getName));
        for (int run = 0; run < 1000; run++) {
            Random chance = new Random(run);
            DecadeBridge bridge = new DecadeBridge();
            if (run % 5 > 0) {
                Bridges.load(bridge, SETUPS[run % 5 - 1]);
            }
            // Each one takes some 6 calls: an object is used for at most 512.
            for (int call = 0; call < 60; call++) {
                oneCall(bridge, face.get(chance.nextInt(face.size())), chance);
            }
        }
        Check.end();
    }

    private static void oneCall(DecadeBridge bridge, Method method, Random chance) throws IllegalAccessException {
        // Loads and protocols by chance would nearly all be errors: others fill the buffer here.
        if (method.getName().equals("run")) {
            Bridges.feed(bridge, chance.nextBoolean() ? "balance;read 3;rest 9;balance turned;" : "arms 4 0;turn;wires 3;");
        }
        Class<?>[] types = method.getParameterTypes();
        Object[] values = new Object[types.length];
        for (int i = 0; i < types.length; i++) {
            int some = chance.nextInt(4) == 0 ? chance.nextInt() : EDGES[chance.nextInt(EDGES.length)];
            values[i] = types[i] == boolean.class ? (Object) chance.nextBoolean() : (Object) some;
        }
        int[] before = sizesOf(bridge);
        try {
            method.invoke(bridge, values);
        } catch (InvocationTargetException thrown) {
            Class<?> what = thrown.getCause().getClass();
            boolean named = Arrays.asList(method.getExceptionTypes()).contains(what);
            Check.due(method + " " + Arrays.toString(values) + " throws " + thrown.getCause(), named ? 1 : 0, 1);
            boolean same = Arrays.equals(before, sizesOf(bridge));
            Check.due(method + " " + Arrays.toString(values) + " changes nothing", same ? 1 : 0, 1);
            return;
        }
        Check.due("it ends", 1, 1);
    }

    // Those that nearly every change would change.
    private static int[] sizesOf(DecadeBridge bridge) {
        return new int[] {bridge.size(9), bridge.size(14), bridge.size(15), bridge.size(19)};
    }
}
