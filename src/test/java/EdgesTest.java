import java.lang.reflect.Method;
import java.lang.reflect.Modifier;
import java.util.ArrayList;
import java.util.Comparator;
import java.util.List;
import java.util.Random;

/** Every method of the face with numbers at, beside and far off every limit; no call may throw; answers by the model. */
public final class EdgesTest {
    private static final int[] EDGES = {
        Integer.MIN_VALUE, Integer.MIN_VALUE + 1, -10000, -1001, -1000, -999, -998, -13, -3, -2, -1, 0, 0, 1, 1, 2, 2, 3, 3, 4, 4,
        5, 6, 7, 8, 9, 10, 11, 12, 13, 29, 30, 31, 32, 39, 40, 41, 59, 60, 61, 63, 64, 98, 99, 100, 299, 300, 301, 494, 495, 496,
        998, 999, 1000, 2048, 4094, 4095, 4096, 4097, 9998, 9999, 10000, 65536, Integer.MAX_VALUE - 20, Integer.MAX_VALUE};

    public static void main(String[] args) throws Exception {
        Check check = new Check("EdgesTest");
        List<Method> methods = new ArrayList<>();
        for (Method m : WantOfAWant.class.getDeclaredMethods()) {
            if (Modifier.isPublic(m.getModifiers())) {
                methods.add(m);
            }
        }
        methods.sort(Comparator.comparing(Method::getName));
        check.due("methods of the face", methods.size(), 50);
        for (int run = 0; run < 150 && !check.hasWrong(); run++) {
            Random random = new Random(run);
            WantOfAWant x = new WantOfAWant();
            Model model = new Model();
            start(x, model, random);
            for (int i = 0; i < 450; i++) {
                Method method = methods.get(random.nextInt(methods.size()));
                if (method.getName().equals("back") && random.nextInt(8) > 0) {
                    continue;
                }
                Object[] with = draw(method, random, run);
                StringBuilder call = new StringBuilder("run " + run + ": " + method.getName());
                for (Object o : with) {
                    call.append(' ').append(o);
                }
                check.due(call.toString(), number(method.invoke(x, with)), number(ofModel(model, method, with)));
            }
        }
        check.finish();
    }

    private static void start(WantOfAWant x, Model model, Random random) {
        for (int i = random.nextInt(30); i > 0; i--) {
            int a = random.nextInt(11);
            int b = a + 1 + random.nextInt(11 - a);
            x.hang(a, b, true);
            model.hang(a, b, true);
        }
        for (int i = random.nextInt(6); i > 0; i--) {
            int want = random.nextInt(12);
            x.person(want, i);
            model.person(want, i);
        }
        if (random.nextBoolean()) {
            Check.load(x, "tells pain - next; needs tears - 10;");
            model.tape = "tells pain - next; needs tears - 10;";
            x.text();
            model.text();
            x.by(0);
            model.by(0);
        }
    }

    private static Object[] draw(Method method, Random random, int run) {
        Class<?>[] types = method.getParameterTypes();
        Object[] with = new Object[types.length];
        for (int i = 0; i < types.length; i++) {
            // every second run keeps near 0, so that more calls are done
            int most = run % 2 == 0 ? EDGES.length : 22;
            int edge = run % 2 == 0 ? EDGES[random.nextInt(most)] : EDGES[10 + random.nextInt(most)];
            with[i] = types[i] == boolean.class ? (Object) random.nextBoolean() : (Object) edge;
        }
        return with;
    }

    private static Object ofModel(Model model, Method method, Object[] with) throws Exception {
        if (method.getName().equals("feed")) {
            int[] words = new int[5];
            for (int i = 0; i < 5; i++) {
                words[i] = (Integer) with[i];
            }
            return model.feed(words);
        }
        Method like = Model.class.getDeclaredMethod(method.getName(), method.getParameterTypes());
        return like.invoke(model, with);
    }

    private static long number(Object answer) {
        if (answer instanceof Boolean) {
            return (Boolean) answer ? 1 : 0;
        }
        return ((Number) answer).longValue();
    }
}
