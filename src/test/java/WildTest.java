import java.lang.reflect.InvocationTargetException;
import java.lang.reflect.Method;
import java.lang.reflect.Modifier;
import java.util.Arrays;
import java.util.Comparator;
import java.util.List;
import java.util.Random;

/** Any call with any arguments in any state: it answers, or throws just what it declares and changes nothing. */
public final class WildTest {
    private static final Check check = new Check();

    public static void main(String[] args) throws Exception {
        Method[] all = Roadgame.class.getDeclaredMethods();
        Arrays.sort(all, Comparator.comparing(Method::getName));
        for (int seed = 0; seed < 400; seed++) {
            Random random = new Random(seed);
            Roadgame game = new Roadgame();
            for (int k = 0; k < 512; k++) {
                Method method = all[random.nextInt(all.length)];
                if (Modifier.isPublic(method.getModifiers())) {
                    call(game, method, random);
                }
            }
        }
        check.end("WildTest");
    }

    private static void call(Roadgame game, Method method, Random random) throws Exception {
        Object[] given = new Object[method.getParameterCount()];
        for (int k = 0; k < given.length; k++) {
            given[k] = argument(random);
        }
        String before = Check.stateOf(game) + game.house(0) + "," + game.house(1) + "," + game.house(2);
        try {
            method.invoke(game, given);
        } catch (InvocationTargetException e) {
            List<Class<?>> declared = Arrays.asList(method.getExceptionTypes());
            check.holds(method.getName() + Arrays.toString(given) + " threw " + e.getCause(),
                declared.contains(e.getCause().getClass()));
            String after = Check.stateOf(game) + game.house(0) + "," + game.house(1) + "," + game.house(2);
            check.same(method.getName() + Arrays.toString(given) + " threw", after, before);
        }
    }

    private static Object argument(Random random) {
        switch (random.nextInt(12)) {
            case 0:
                return random.nextInt();
            case 1:
                return -1;
            case 2:
                return random.nextInt(10002);
            case 3:
                return random.nextInt(14);
            case 4:
            case 5:
            case 6:
                return random.nextInt(6);
            default:
                return random.nextInt(3);
        }
    }
}
