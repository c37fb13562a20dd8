import java.lang.reflect.InvocationTargetException;
import java.lang.reflect.Method;
import java.util.ArrayList;
import java.util.List;
import java.util.Random;

/** Promises 1 to 29: long runs of calls, drawn with fixed seeds, answered alike by the class and by the model. */
public final class RandomRunsTest {
    private static final int RUNS = 500;
    private static final int CALLS = 512;
    private static final int[] ODD = {Integer.MIN_VALUE, -10, -9, -1, 0, 1, 2, 3, 4, 5, 9, 10, 13, 14, 15, 30, 98, 99,
        100, 255, 256, 400, 998, 999, 1000, 9999, 10000, Integer.MAX_VALUE};
    private static final String[] NAMES = {"append", "clearText", "errorPosition", "load", "about", "zone", "ship",
        "waves", "account", "take", "send", "recall", "extend", "buy", "setWaves", "pass", "undo", "needs", "reach",
        "calmDays", "ahead", "doneAfter", "bestShip", "extension", "runScript", "simulate", "save", "restore"};
    /** How often each name is drawn: what moves the state most of all. */
    private static final int[] WEIGHTS = {2, 1, 2, 1, 14, 6, 10, 2, 10, 14, 14, 6, 4, 4, 5, 22, 6, 3, 4,
        4, 8, 5, 4, 5, 10, 4, 2, 2};

    private final Random random;
    private final CableLanding tested = new CableLanding();
    private final Model model = new Model();
    private final List<String> told = new ArrayList<>();
    private int calls = 0;
    private boolean differs = false;

    private RandomRunsTest(long seed) {
        random = new Random(seed);
    }

    public static void main(String[] args) {
        for (int seed = 0; seed < RUNS; seed++) {
            RandomRunsTest run = new RandomRunsTest(seed);
            run.play();
            Check.isTrue("run " + seed + " as the model's", !run.differs);
            if (run.differs) {
                int from = Math.max(0, run.told.size() - 25);
                System.out.println(String.join("\n", run.told.subList(from, run.told.size())));
            }
        }
        Check.end();
    }

    private void play() {
        if (random.nextInt(8) > 0) {
            writeAndLoad();
        }
        while (calls < CALLS && !differs) {
            int kind = random.nextInt(300);
            if (kind == 0) {
                writeAndLoad();
            } else if (kind < 4) {
                askAll();
            } else {
                String name = drawName();
                call(name, arguments(name));
            }
        }
    }

    private String drawName() {
        int sum = 0;
        for (int weight : WEIGHTS) {
            sum += weight;
        }
        int left = random.nextInt(sum);
        for (int i = 0; i < NAMES.length; i++) {
            left -= WEIGHTS[i];
            if (left < 0) {
                return NAMES[i];
            }
        }
        return NAMES[0];
    }

    private void askAll() {
        for (int what = 0; what <= 13; what++) {
            call("about", what);
        }
        for (int what = 0; what <= 7; what++) {
            call("account", what);
            call("ship", random.nextInt(4), what);
        }
    }

    // ---- texts

    private void writeAndLoad() {
        String text = drawText();
        call("clearText");
        for (int i = 0; i < text.length(); i++) {
            call("append", (int) text.charAt(i));
        }
        call("errorPosition");
        call("load");
    }

    private String drawText() {
        StringBuilder text = new StringBuilder();
        text.append('C').append(between(1, 3)).append(between(1, 3));
        text.append(digits(4, random.nextInt(4) == 0 ? between(0, 40) : between(50, 9999)));
        boolean easy = random.nextBoolean();
        for (int z = random.nextInt(5) == 0 ? 9 : between(1, 4); z > 0; z--) {
            int first = easy ? between(0, 20) : between(0, 99);
            text.append('z').append(digits(2, easy ? between(1, 30) : between(1, 99))).append(digits(2, first));
            text.append(digits(2, easy ? 99 : between(first, 99))).append(between(0, 9));
        }
        for (int s = between(1, 4); s > 0; s--) {
            text.append('s').append(digits(3, easy ? between(10, 60) : between(10, 999)));
            text.append(digits(2, between(1, 20))).append(between(1, 9)).append(digits(2, between(1, 99)));
        }
        text.append('w');
        for (int w = random.nextInt(6) == 0 ? 30 : between(1, 8); w > 0; w--) {
            text.append(easy ? between(0, 5) : between(0, 9));
        }
        if (random.nextInt(4) == 0) {
            damage(text);
        }
        return text.toString();
    }

    private void damage(StringBuilder text) {
        int at = random.nextInt(text.length());
        switch (random.nextInt(4)) {
            case 0: text.setLength(at); break;
            case 1: text.deleteCharAt(at); break;
            case 2: text.insert(at, drawSign()); break;
            default: text.setCharAt(at, drawSign()); break;
        }
    }

    private char drawSign() {
        return "0123456789Czsw /:".charAt(random.nextInt(17));
    }

    private static String digits(int width, int number) {
        return String.format("%0" + width + "d", number);
    }

    private int between(int least, int most) {
        return least + random.nextInt(most - least + 1);
    }

    // ---- arguments

    private Object[] arguments(String name) {
        int z = within(0, model.about(0) - 1);
        int s = within(0, model.about(1) - 1);
        switch (name) {
            case "append": return new Object[] {within(0, 255)};
            case "about": return new Object[] {within(0, 13)};
            case "zone": return new Object[] {z, within(0, 4)};
            case "ship": return new Object[] {s, within(0, 7)};
            case "waves": return new Object[] {within(0, 9999)};
            case "account": return new Object[] {within(0, 7)};
            case "take": return new Object[] {s, random.nextInt(4) > 0 ? within(1, 30) : within(1, 999)};
            case "send": case "recall": return new Object[] {s};
            case "extend": return new Object[] {z, within(1, 99)};
            case "buy": return new Object[] {within(1, 999)};
            case "setWaves": return new Object[] {within(0, 29) % 7, within(0, 9)};
            case "pass": return new Object[] {random.nextInt(12) > 0 ? within(1, 4) : within(1, 99)};
            case "needs": return new Object[] {z, within(0, 99)};
            case "reach": case "calmDays": return new Object[] {s, z};
            case "ahead": return new Object[] {within(0, 99), within(0, 4)};
            case "doneAfter": case "extension": return new Object[] {z};
            case "runScript": return script();
            case "simulate": return new Object[] {random.nextLong(), within(1, 99)};
            case "save": case "restore": return new Object[] {within(0, 1)};
            default: return new Object[0];
        }
    }

    private int within(int least, int most) {
        return random.nextInt(40) == 0 ? ODD[random.nextInt(ODD.length)] : between(least, most);
    }

    private Object[] script() {
        int n = random.nextInt(30) == 0 ? between(-1, 5) : between(1, 3);
        int groups = random.nextInt(20) == 0 ? between(0, 3) : Math.max(1, Math.min(3, n));
        long script = 0;
        for (int i = 0; i < groups; i++) {
            script = script * 100000 + group();
        }
        return new Object[] {n, random.nextInt(60) == 0 ? -script : script};
    }

    private int group() {
        if (random.nextInt(15) == 0) {
            return random.nextInt(100000);
        }
        int s = random.nextInt(model.about(1)) * 1000;
        int z = random.nextInt(model.about(0)) * 1000;
        int extra = random.nextInt(25) == 0 ? (int) Math.pow(10, random.nextInt(4)) : 0;
        switch (random.nextInt(9)) {
            case 0: return 10000 + s + between(0, 40) + extra;
            case 1: return 20000 + s + extra;
            case 2: return 30000 + s + extra;
            case 3: return 40000 + z + between(0, 99) + extra;
            case 4: return 50000 + between(0, 20) + extra;
            case 5: return 60000 + between(0, 999) + extra;
            case 6: return 70000 + 1000 * model.about(6) + model.about(7) + extra;
            case 7: return 80000 + s + between(0, 5) + extra;
            default: return 90000 + between(0, 6) + extra;
        }
    }

    // ---- calls

    private void call(String name, Object... arguments) {
        if (calls >= CALLS || differs) {
            return;
        }
        calls++;
        String got = answer(tested, name, arguments);
        String due = answer(model, name, arguments);
        StringBuilder row = new StringBuilder(name);
        for (Object argument : arguments) {
            row.append(' ').append(argument);
        }
        told.add(row + " = " + got + (got.equals(due) ? "" : ", due is " + due));
        differs = !got.equals(due);
    }

    private static String answer(Object object, String name, Object[] arguments) {
        for (Method method : object.getClass().getDeclaredMethods()) {
            if (method.getName().equals(name)) {
                try {
                    return String.valueOf(method.invoke(object, arguments));
                } catch (InvocationTargetException e) {
                    return e.getCause().getClass().getName();
                } catch (IllegalAccessException e) {
                    return "not to be called";
                }
            }
        }
        return "no method " + name;
    }
}
