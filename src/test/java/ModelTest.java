import java.util.ArrayList;
import java.util.List;

/** Long runs of mixed calls, each answer compared with the one of the model; the runs are the same each time. */
public final class ModelTest {
    private static final int RUNS = 400;
    private static final int CALLS = 512;
    private static final int MOST_REPORTS = 5;
    private static final String[] ALPHABET = {"+", "*", ";", " ", "0", "9", "00001", "x"};

    private static int reports = 0;

    private final RainRecorder recorder = new RainRecorder();
    private final Model model = new Model();
    private final List<String> calls = new ArrayList<>();
    private long seed;

    private ModelTest(int run) {
        seed = run * 7919L + 17;
    }

    public static void main(String[] args) {
        for (int run = 0; run < RUNS && reports < MOST_REPORTS; run++) {
            new ModelTest(run).play(run);
        }
        if (reports > 0) {
            System.exit(1);
        }
    }

    private int any(int least, int greatest) {
        seed = seed * 6364136223846793005L + 1442695040888963407L;
        return least + (int) ((seed >>> 33) % (greatest - least + 1));
    }

    /** Mostly a value of the range, now and then one just at or just behind its edges. */
    private int about(int least, int greatest) {
        switch (any(0, 11)) {
            case 0:
                return least - 1;
            case 1:
                return least;
            case 2:
                return greatest;
            case 3:
                return any(0, 3) == 0 ? (any(0, 1) == 0 ? Integer.MAX_VALUE : Integer.MIN_VALUE) : greatest + 1;
            default:
                return any(least, greatest);
        }
    }

    private void play(int run) {
        // Some runs rain hard, some go on to the last tick, some look ahead much.
        int kind = run % 4;
        while (calls.size() < CALLS) {
            if (!playOne(kind)) {
                System.out.println("run " + run + ", the calls before: "
                        + calls.subList(Math.max(0, calls.size() - 12), calls.size()));
                reports++;
                return;
            }
        }
    }

    private boolean playOne(int kind) {
        int tick = model.count(0);
        switch (any(0, 30)) {
            case 0: case 1: case 2:
                return call("addShower", about(tick, Math.min(5000, tick + (kind == 1 ? 600 : 60))),
                        about(1, any(0, 2) == 0 ? 500 : 40), about(1, kind == 0 ? 200 : 60));
            case 3:
                return call("cancel", about(0, model.count(1)));
            case 4:
                return call("shower", about(0, model.count(1)), about(0, 3));
            case 5: case 6: case 7:
                return call("run", about(1, kind == 1 || any(0, 9) == 0 ? 1000 : 25));
            case 8:
                return any(0, 1) == 0 ? call("undo") : call("wind");
            case 9: case 10:
                return set();
            case 11:
                return call("addGears", about(8, 120), about(8, 120));
            case 12:
                return any(0, 2) == 0 ? call("removeGears", about(0, 2)) : call("gear", about(0, 2), about(0, 1));
            case 13: case 14: case 15:
                return call("count", any(0, 3) == 0 ? about(20, 27) : about(0, 14));
            case 16: case 17:
                return call("account", about(0, 4));
            case 18: case 19:
                return call("mark", about(0, model.count(2)), about(0, 2));
            case 20: case 21:
                return call("storm", about(0, model.count(3)), about(0, 5));
            case 22:
                return any(0, 1) == 0 ? call("greatestStorm") : call("gapForOne");
            case 23: case 24:
                return call("ifRun", about(1, any(0, 3) == 0 ? 1000 : 60), about(0, 7));
            case 25:
                return capacityFor(kind);
            case 26:
                return any(0, 1) == 0 ? call("untilStop") : call("gearsFor", gearTicks());
            case 27: case 28:
                return write();
            case 29:
                return call("fault", about(0, 1));
            default:
                return any(0, 2) == 0 ? call("clearText") : call("lay");
        }
    }

    private boolean set() {
        int[][] ranges = {{20, 500}, {0, 20}, {0, 200}, {0, 50}, {0, 50}, {10, 1000}, {1, 2000}, {1, 1000}};
        int what = about(0, 7);
        int known = Math.floorMod(what, 8);
        int greatest = any(0, 1) == 0 ? ranges[known][1] : Math.min(ranges[known][1], ranges[known][0] + 20);
        return call("set", what, about(ranges[known][0], greatest));
    }

    private boolean capacityFor(int kind) {
        int ticks = kind == 2 && any(0, 5) == 0 ? about(1, 1000) : about(1, 40);
        return call("capacityFor", ticks, any(0, 3) == 0 ? about(0, 100000) : about(0, 1500));
    }

    private int gearTicks() {
        int teeth = model.count(25);
        return any(0, 1) == 0 ? about(1, 100000) : Math.max(1, teeth * any(8, 20) / any(8, 20));
    }

    private boolean write() {
        StringBuilder text = new StringBuilder();
        if (any(0, 3) == 0) {
            text.append(ALPHABET[any(0, ALPHABET.length - 1)]);
        } else {
            String begin = String.valueOf(about(0, 200));
            text.append(begin).append('+').append(about(1, 60)).append('*').append(about(1, 100)).append(';');
        }
        if (any(0, 9) == 0) {
            text.setCharAt(any(0, text.length() - 1), (char) about(32, 126));
        }
        boolean same = true;
        for (int i = 0; i < text.length() && same && calls.size() < CALLS; i++) {
            same = call("type", (int) text.charAt(i));
        }
        return same;
    }

    private boolean call(String name, Object... values) {
        int got = Script.invoke(recorder, name, values);
        int want = Script.invoke(model, name, values);
        StringBuilder told = new StringBuilder(name);
        for (Object value : values) {
            told.append(' ').append(value);
        }
        calls.add(told.append(" = ").append(want).toString());
        if (got != want) {
            System.out.println(told + " is due, but it answered " + got);
        }
        return got == want;
    }
}
