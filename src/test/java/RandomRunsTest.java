import java.lang.reflect.InvocationTargetException;
import java.lang.reflect.Method;
import java.util.Arrays;
import java.util.HashMap;
import java.util.Map;
import java.util.Random;

/** Runs of calls by chance, of a fixed seed each: the class has to answer as the plain model does. */
final class RandomRunsTest {
    private static final int RUNS = 240;
    private static final int CALLS = 512;
    private static final int SWEEP_CALLS = 24 * 8;

    /** Each call with what its arguments are, and how often it is made. */
    private static final String[] CALL_KINDS = {
        "6 contract person place day day bool norm pay",
        "20 pay contract day pay",
        "40 shift contract contractDay minute length",
        "6 minutes contract day",
        "8 overtime contract week",
        "25 base contract month",
        "5 leaveRule rate carry term",
        "24 leave contract leaveDay",
        "12 leaveLeft person day",
        "40 word what number",
        "10 element nextElement people",
        "6 order element",
        "25 bonus person month place bonus",
        "10 contribution place month part ceiling",
        "16 bracket place state month end part",
        "8 state person month state",
        "8 pension person month saved",
        "6 yearTax place state month amount",
        "60 slip person month line",
        "30 slipIn person month place lineIn",
        "20 elementOf element person month",
        "14 pensionOf person month",
        "8 grossFor person month place net",
        "6 garnish person month rank total part kept",
        "20 takenBy garnishment month",
        "8 advance person advance",
        "2 open",
        "16 close",
        "4 payments",
        "10 payment payment four",
        "6 comeBack payment",
        "16 owed person",
        "12 filed place month bool",
        "10 corrections place month",
    };

    private final Random random;
    private final int seed;
    private final PlainModel model = new PlainModel();
    private final Taxmaze object = new Taxmaze();
    private final StringBuilder told = new StringBuilder();
    private int contracts;
    private int lastDay;
    private int people;
    private int chosen;

    private RandomRunsTest(int seed) {
        this.seed = seed;
        random = new Random(seed);
        people = 1 + random.nextInt(6);
        lastDay = random.nextInt(720);
    }

    static void run() {
        Map<String, Method> ofModel = methodsOf(PlainModel.class);
        Map<String, Method> ofClass = methodsOf(Taxmaze.class);
        int sum = 0;
        for (String kind : CALL_KINDS) {
            sum += Integer.parseInt(kind.split(" ")[0]);
        }
        for (int seed = 1; seed <= RUNS; seed++) {
            RandomRunsTest test = new RandomRunsTest(seed);
            boolean alike = true;
            boolean sweeps = seed % 3 == 0;
            for (int call = 0; call < (sweeps ? CALLS - SWEEP_CALLS : CALLS) && alike; call++) {
                alike = test.step(sum, ofModel, ofClass);
            }
            alike = alike && (!sweeps || test.sweep());
            Check.tell(alike, "random run " + seed, test.told.toString(), "as the plain model answers");
        }
    }

    private static Map<String, Method> methodsOf(Class<?> where) {
        Map<String, Method> methods = new HashMap<>();
        for (Method method : where.getDeclaredMethods()) {
            for (String kind : CALL_KINDS) {
                String[] words = kind.split(" ");
                if (words[1].equals(method.getName()) && words.length - 2 == method.getParameterCount()) {
                    methods.put(method.getName(), method);
                }
            }
        }
        return methods;
    }

    private boolean step(int sum, Map<String, Method> ofModel, Map<String, Method> ofClass) {
        String[] words = pick(sum).split(" ");
        Method plain = ofModel.get(words[1]);
        Object[] arguments = new Object[words.length - 2];
        for (int i = 0; i < arguments.length; i++) {
            Class<?> type = plain.getParameterTypes()[i];
            long number = random.nextInt(80) == 0 ? wild() : argument(words[i + 2]);
            chosen = words[i + 2].equals("contract") ? (int) number : chosen;
            arguments[i] = type == boolean.class ? (Object) (number % 2 == 1)
                : type == long.class ? (Object) number : (Object) (int) number;
        }
        String due = answer(plain, model, arguments);
        String got = answer(ofClass.get(words[1]), object, arguments);
        if (words[1].equals("contract") && !due.startsWith("throws")) {
            contracts++;
            lastDay = (int) arguments[2];
        }
        told.append("\n  ").append(words[1]).append(Arrays.toString(arguments)).append(" = ").append(got);
        if (!got.equals(due)) {
            told.append(" but ").append(due).append(" (seed ").append(seed).append(')');
        }
        return got.equals(due);
    }

    /** All slips of a person, behind whatever was told. */
    private boolean sweep() {
        int person = between(0, people - 1);
        for (int month = 0; month < 24; month++) {
            for (int what = 0; what < 8; what++) {
                long got = object.slip(person, month, what);
                long due = model.slip(person, month, what);
                if (got != due) {
                    told.append("\n  slip[").append(person).append(", ").append(month).append(", ").append(what).append("] = ")
                        .append(got).append(" but ").append(due).append(" (seed ").append(seed).append(')');
                    return false;
                }
            }
        }
        return true;
    }

    private String pick(int sum) {
        int left = random.nextInt(sum);
        if (contracts < 2 && random.nextInt(3) == 0) {
            return CALL_KINDS[0];
        }
        if (model.draft().size() > random.nextInt(4) && PlainModel.pileOf(model.draft()) == 1 && random.nextInt(8) == 0) {
            return "1 element nextElement people";
        }
        for (String kind : CALL_KINDS) {
            left -= Integer.parseInt(kind.split(" ")[0]);
            if (left < 0) {
                return kind;
            }
        }
        return CALL_KINDS[0];
    }

    private static String answer(Method method, Object on, Object[] arguments) {
        try {
            return String.valueOf(method.invoke(on, arguments));
        } catch (InvocationTargetException e) {
            Throwable thrown = e.getCause();
            return on instanceof Taxmaze ? "throws " + Check.nameOf(thrown) : "throws " + thrown.getClass().getSimpleName();
        } catch (IllegalAccessException e) {
            return e.toString();
        }
    }

    private long wild() {
        int[] ends = {-1, 0, 1, 2, 3, 5, 6, 7, 9, 10, 11, 23, 24, 25, 40, 59, 60, 63, 64, 102, 103, 200, 201, 500, 501, 600, 601, 719,
            720, 900, 901, 1000, 1001, 1439, 1440, 1441, 1000000, 1000001, -1000001, 10000000, 10000001, -10000001,
            100000000, 100000001, 1000000000, 1000000001, Integer.MAX_VALUE, Integer.MIN_VALUE};
        return ends[random.nextInt(ends.length)];
    }

    private int between(int least, int most) {
        return least + random.nextInt(most - least + 1);
    }

    private int oneOf(int... numbers) {
        return numbers[random.nextInt(numbers.length)];
    }

    private long argument(String kind) {
        switch (kind) {
            case "person": return between(0, people - 1);
            case "place": return random.nextInt(3) == 0 ? between(0, 2) : 0;
            case "contract": return between(0, Math.max(0, contracts - 1));
            case "day": return oneOf(between(0, 719), 0, 719, Math.min(719, lastDay + between(0, 90)));
            case "contractDay": return contractDay(random.nextInt(4) == 0 ? between(0, 719) : lastDay + between(0, 20));
            case "leaveDay": return contractDay(random.nextInt(3) == 0 ? oneOf(30, 359, 360, 390, 420, 719) : between(0, 719));
            case "bool": return between(0, 1);
            case "norm": return oneOf(60, 600, 480, between(60, 600));
            case "pay": return oneOf(0, 1000000, between(0, 5000), between(0, 400000), between(0, 1000000));
            case "minute": return oneOf(0, 1439, between(0, 1439), between(300, 1200));
            case "length": return oneOf(1, 30, 360, 361, 1440, between(1, 1440), between(1, 300));
            case "week": return oneOf(102, between(0, 102), lastDay / 7, lastDay / 7 + 1);
            default: return moreArguments(kind);
        }
    }

    private long contractDay(int day) {
        PlainModel.Contract contract = model.contractOf(chosen);
        if (contract == null || random.nextInt(15) == 0) {
            return day;
        }
        return day >= contract.from() && day <= contract.to() ? day : between(contract.from(), contract.to());
    }

    /** A word that mostly keeps the draft such that it can become an element. */
    private int what() {
        int high = PlainModel.pileOf(model.draft());
        if (random.nextInt(20) == 0) {
            return between(0, 9);
        }
        return high >= 2 && random.nextInt(model.draft().size() + high > 8 ? 9 : 2) > 0 ? between(4, 9) : between(0, 3);
    }

    private long moreArguments(String kind) {
        switch (kind) {
            case "month": return oneOf(0, 11, 12, 23, between(0, 23), lastDay / 30, Math.min(23, lastDay / 30 + 1), Math.min(23, model.open()));
            case "rate": return oneOf(0, 10, 25, between(0, 50), 50);
            case "carry": return oneOf(0, 15, between(0, 100), 500);
            case "term": return oneOf(1, 2, 12, between(1, 12));
            case "what": return what();
            case "number": return oneOf(between(0, 5), between(0, 2000), between(-1000000, 1000000));
            case "element": return random.nextInt(9) == 0 ? between(0, 5) : between(0, Math.max(0, model.elements() - 1));
            case "nextElement": return random.nextInt(9) == 0 ? between(0, 6) : between(0, Math.min(5, model.elements()));
            case "people": return random.nextInt(3) == 0 ? between(0, 63) : 63;
            case "bonus": return oneOf(0, between(-10000000, 10000000), between(-300000, 300000), between(0, 500000));
            case "part": return oneOf(0, 1, 100, between(0, 300), between(0, 500), 500);
            case "ceiling": return oneOf(0, between(0, 1000000), between(0, 5000000), 100000000);
            case "state": return between(0, 1);
            case "end": return oneOf(1, between(1, 1000000), between(1, 10000000), between(1, 1000000000), 1000000000);
            case "saved": return oneOf(0, 49, 50, 51, between(0, 200));
            case "amount": return oneOf(0, between(0, 10000000), 1000000001) * (random.nextInt(9) == 0 ? 10L : 1L);
            case "line": return between(0, 7);
            case "lineIn": return random.nextInt(20) == 0 ? between(0, 7) : oneOf(0, 1, 3);
            case "net": return oneOf(1, 1000000, between(1, 1000000), between(1, 50000));
            case "rank": return between(0, 2);
            case "total": return oneOf(1, between(1, 100000), between(1, 2000000), 100000000);
            case "kept": return oneOf(0, between(0, 200000), between(0, 1000000));
            case "garnishment": return between(0, 3);
            case "advance": return oneOf(1, between(1, 100000), 1000000);
            case "payment": return between(0, Math.max(0, model.payments() - random.nextInt(2)));
            case "four": return between(0, 3);
            default: throw new IllegalStateException(kind);
        }
    }
}
