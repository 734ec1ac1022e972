import java.lang.reflect.InvocationTargetException;
import java.lang.reflect.Method;
import java.lang.reflect.Modifier;
import java.util.Arrays;
import java.util.Comparator;
import java.util.Random;

/** No call throws or answers what no promise knows, whatever its numbers are and whatever came before it. */
public final class WildTest {
    private static final int RUNS = 600;
    private static final int CALLS = 500;
    private static final String[] TEXTS = {
        "",
        "boy a at 99 calm 30;",
        "man a at 0 fear 40 age 99 oil 20 lit;",
        "man a at 1 fear 4 age 9 oil 2 lit;man b at 9 fear 1 age 5;boy x at 4 calm 8;boy y at 90 calm 30;tank 99;pipes 100;draw 999;",
        "help fear/(calm-far)%light or not night*9999*9999*9999;man a at 1 fear 4 age 9 oil 2 lit;boy x at 4 calm 8;",
        "man a at 1 fear 4 age 9 lit;man b at 9 fear 1 age 5;man c at 99 fear 9 age 9;man d at 9 fear 0 age 1;man f at 0 fear 40 age 1 oil 9;"
            + "man g at 50 fear 3 age 9 oil 20 lit;boy x at 4 calm 8;boy y at 90 calm 30;boy z at 0 calm 0;boy w at 50 calm 15;tank 50;pipes 50;",
        "help ((((((((", "man man", "tank 100;", "boy a at 1 calm 1;boy a",
    };

    public static void main(String[] args) throws ReflectiveOperationException {
        Check check = new Check();
        Method[] calls = Arrays.stream(NightLights.class.getDeclaredMethods()).filter(m -> Modifier.isPublic(m.getModifiers()))
                .sorted(Comparator.comparing(Method::getName)).toArray(Method[]::new);
        for (int run = 0; run < RUNS && check.wrong() == 0; run++) {
            Random chance = new Random(run * 104729L + 5);
            NightLights x = new NightLights();
            for (int i = 0; i < CALLS; i++) {
                if (i % 100 == 0) {
                    Check.tell(x, TEXTS[chance.nextInt(TEXTS.length)]);
                }
                call(check, run, x, calls[chance.nextInt(calls.length)], chance);
            }
        }
        check.finish();
    }

    private static void call(Check check, int run, NightLights x, Method method, Random chance) throws IllegalAccessException {
        Object[] numbers = new Object[method.getParameterCount()];
        for (int i = 0; i < numbers.length; i++) {
            numbers[i] = method.getParameterTypes()[i] == boolean.class ? (Object) chance.nextBoolean() : (Object) number(chance);
        }
        String shown = method.getName() + Arrays.toString(numbers);
        check.part("run " + run);
        try {
            Object answer = method.invoke(x, numbers);
            boolean known = answer instanceof Boolean || answer instanceof Integer n && n >= -2;
            check.due(shown + " answers " + answer + ", which may be", known, true);
        } catch (InvocationTargetException e) {
            check.due(shown + " throws " + e.getCause(), true, false);
        }
    }

    private static int number(Random chance) {
        switch (chance.nextInt(5)) {
            case 0: return Check.WILD[chance.nextInt(Check.WILD.length)];
            case 1: return chance.nextInt();
            case 2: return chance.nextInt(100);
            default: return chance.nextInt(7);
        }
    }
}
