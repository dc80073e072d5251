import java.lang.reflect.InvocationTargetException;
import java.lang.reflect.Method;
import java.util.Arrays;
import java.util.HashMap;
import java.util.Map;
import java.util.Random;

/** All promises: long mixed runs of calls, the same on every machine, answered as the model answers them. */
public final class OracleTest {
    private static final long H = 87553987462305L;
    private static final int RUNS = 400;
    private static final int CALLS = 512;
    private static final Map<String, Method> UNIT = methodsOf(ResidueUnit.class);
    private static final Map<String, Method> MODEL = methodsOf(OracleModel.class);
    private static final String[] NAMES = {
        "load", "load", "binary", "work", "work", "work", "work", "compare", "scale", "divide", "channel",
        "inject", "verify", "repair", "sure", "bound", "instruct", "instruct", "instruct", "run", "stopped",
    };

    private final Check check;
    private final Random random;
    /** Few registers in use make calls meet each other's results. */
    private final int registersInUse;

    private OracleTest(Check check, int seed) {
        this.check = check;
        this.random = new Random(seed);
        this.registersInUse = 3 + seed % 14;
    }

    public static void main(String[] args) throws IllegalAccessException {
        Check check = new Check();
        for (int seed = 0; seed < RUNS; seed++) {
            new OracleTest(check, seed).oneRun(seed);
        }
        check.finish();
    }

    private static Map<String, Method> methodsOf(Class<?> owner) {
        Map<String, Method> methods = new HashMap<>();
        for (Method method : owner.getMethods()) {
            methods.put(method.getName(), method);
        }
        return methods;
    }

    private void oneRun(int seed) throws IllegalAccessException {
        ResidueUnit unit = new ResidueUnit();
        OracleModel model = new OracleModel();
        for (int call = 0; call < CALLS; call++) {
            String name = NAMES[random.nextInt(NAMES.length)];
            Object[] arguments = argumentsFor(name);
            String what = "run " + seed + ", call " + call + ": " + name + Arrays.toString(arguments);
            check.due(what, answer(UNIT.get(name), unit, arguments), answer(MODEL.get(name), model, arguments));
        }
    }

    private static Object answer(Method method, Object target, Object[] arguments) throws IllegalAccessException {
        try {
            return method.invoke(target, arguments);
        } catch (InvocationTargetException e) {
            return e.getCause().getClass();
        }
    }

    private Object[] argumentsFor(String name) {
        switch (name) {
            case "load": return new Object[] {register(), number()};
            case "work": return new Object[] {wild(between(0, 3)), register(), register(), register()};
            case "compare": return new Object[] {register(), register()};
            case "scale": return new Object[] {register(), register(), moduli(), random.nextBoolean()};
            case "divide": return new Object[] {register(), register(), register(), register()};
            case "channel": return new Object[] {register(), wild(between(1, 8))};
            case "inject": return new Object[] {register(), wild(between(1, 8)), random.nextInt(4) == 0 ? random.nextInt() : between(-9, 9)};
            case "bound": return new Object[] {register(), wild(between(0, 1))};
            case "instruct": return instruction();
            case "run": return new Object[] {wild(random.nextBoolean() ? between(0, 40) : between(0, 400))};
            case "stopped": return new Object[] {};
            default: return new Object[] {register()};
        }
    }

    private Object[] instruction() {
        int kind = between(0, 11);
        boolean aIsInstruction = kind == 7 || kind == 10;
        int a = aIsInstruction ? wild(between(0, 31)) : kind == 9 ? wild(between(0, 1000)) : register();
        int b = kind == 8 ? wild(between(0, 31)) : kind == 11 ? wild(between(-128, 127)) : register();
        int c = kind == 5 ? moduli() : register();
        int i = random.nextBoolean() ? between(0, 5) : between(0, 31);
        return new Object[] {wild(i), wild(kind), a, b, c};
    }

    private int between(int least, int greatest) {
        return least + random.nextInt(greatest - least + 1);
    }

    /** Now and then a number next to the edges of what is allowed, or far beyond them. */
    private int wild(int usual) {
        int[] odd = {-1, 0, 1, 2, 3, 4, 8, 9, 11, 12, 15, 16, 31, 32, 127, 128, -128, -129, 1000, 1001, 2000, 2001,
            Integer.MAX_VALUE, Integer.MIN_VALUE};
        return random.nextInt(25) == 0 ? odd[random.nextInt(odd.length)] : usual;
    }

    private int register() {
        return wild(random.nextInt(registersInUse));
    }

    private int moduli() {
        return random.nextInt(20) == 0 ? between(-2, 300) : between(1, 63);
    }

    private long number() {
        switch (random.nextInt(6)) {
            case 0: return between(-300, 300);
            case 1: return H - between(-1, 20);
            case 2: return -H + between(-1, 20);
            case 3: return random.nextLong() >> between(0, 60);
            case 4: return (random.nextBoolean() ? 1 : -1) * (9357000L + between(0, 200));
            default: return random.nextLong() % (H + 1);
        }
    }
}
