import java.lang.reflect.InvocationTargetException;
import java.lang.reflect.Method;
import java.lang.reflect.Modifier;
import java.util.ArrayList;
import java.util.Arrays;
import java.util.Comparator;
import java.util.List;
import java.util.Random;

/** No call throws, for any arguments in any state, and the same calls give the same answers. */
public final class SafetyTest {
    private static final Due DUE = new Due();
    private static final String SIGNS = "wnstjxpbikayqmovlez0123456789+-*/%<>=&|!()[];,.";

    public static void main(String[] args) throws IllegalAccessException {
        List<Method> methods = new ArrayList<>();
        for (Method m : SlideNight.class.getDeclaredMethods()) {
            if (Modifier.isPublic(m.getModifiers())) {
                methods.add(m);
            }
        }
        methods.sort(Comparator.comparing(Method::getName));
        for (int run = 0; run < 400; run++) {
            drawnCalls(run, methods);
        }
        fullObject();
        DUE.end();
    }

    private static int drawn(Random random) {
        int[] edges = {Integer.MIN_VALUE, Integer.MAX_VALUE, -1, -2, -1000, 8, 12, 31, 32, 33, 60, 120, 240, 260,
            9999, 10000, 65535, 65536, 1 << 30};
        switch (random.nextInt(4)) {
            case 0:
                return edges[random.nextInt(edges.length)];
            case 1:
                return random.nextInt();
            default:
                return random.nextInt(random.nextBoolean() ? 4 : 30);
        }
    }

    private static int fourSigns(Random random) {
        int four = 0;
        for (int k = 0; k < 4; k++) {
            four = four << 8 | SIGNS.charAt(random.nextInt(SIGNS.length()));
        }
        return random.nextInt(5) == 0 ? random.nextInt() : four;
    }

    private static void drawnCalls(int run, List<Method> methods) throws IllegalAccessException {
        Random random = new Random(run);
        SlideNight night = run % 2 == 0 ? new SlideNight() : Due.withSlides(run % 33);
        SlideNight other = run % 2 == 0 ? new SlideNight() : Due.withSlides(run % 33);
        if (run % 3 == 0) {
            String law = "w1+q(1=1);n9(1=1);s3(1=1);t2(1=1);j2(1=1);x1(1=1);p99(1=1);b7(1=1)";
            Due.law(night, law);
            Due.law(other, law);
        }
        for (int call = 0; call < 512; call++) {
            Method method = methods.get(random.nextInt(methods.size()));
            Object[] values = new Object[method.getParameterCount()];
            for (int k = 0; k < values.length; k++) {
                values[k] = method.getName().equals("feed") ? fourSigns(random) : drawn(random);
            }
            String name = method.getName() + Arrays.toString(values);
            try {
                Object got = method.invoke(night, values);
                DUE.is(name, got.equals(method.invoke(other, values)), true);
            } catch (InvocationTargetException e) {
                DUE.is("run " + run + ": " + name + " threw " + e.getCause(), false, true);
            }
        }
    }

    /** Everything told at its most. */
    private static void fullObject() {
        SlideNight n = Due.withSlides(32);
        for (int i = 0; i < 32; i++) {
            n.put(i, 1 + i % 7);
            n.day(i, 99);
            n.sure(i, i % 4);
        }
        for (int l = 0; l < 8; l++) {
            n.looker(l, 9, 9999);
        }
        n.lamps(9);
        for (int k = 0; k < 24; k++) {
            n.clue(k, k + 1);
            n.link(k + 1, k);
        }
        Due.tray(n, "(0-9)6");
        Due.law(n, "w99(1=1);n10(1=1);s99(1=1);t99(1=1);p999(1=1);b999(1=1)");
        DUE.is("seconds", n.tried(0), 60 * 99 + 99 * (3 + 2 + 1 + 4 + 5 + 6 + 7 + 3 + 2 + 1));
        DUE.is("the mean", n.toTurn(0, 20), 99 * 7);
        DUE.is("the mean", n.toTurn(0, 21), 2);
        DUE.is("the light box", n.lightBox(9999, 0) != 0, true);
        DUE.is("leave", n.leave(6, 0), 999 - 99 * 7);
        DUE.is("the hand", n.hand(0), 21);
        DUE.is("the hand", n.hand(1), 4);
        int[] twelve = {0, 1, 2, 3, 4, 5, 6, 7, 8, 9, 10, 11};
        Due.feed(n, twelve);
        DUE.is("spilt", n.spilt(12, -1), 1);
    }
}
