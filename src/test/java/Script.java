import java.lang.reflect.Method;

/**
 * Plays calls on a new object and prints each one whose answer is not the one that is due.
 *
 * A script has a step on each line, or several with "|" between them: "addShower 5 40 30 = 0" calls
 * addShower(5, 40, 30) and wants 0. "write 0+1*2; = 6" types the characters one by one and wants the last length.
 */
final class Script {
    private static int wrong = 0;

    static RainRecorder play(String name, String script) {
        RainRecorder recorder = new RainRecorder();
        play(name, recorder, script);
        return recorder;
    }

    static void play(String name, RainRecorder recorder, String script) {
        for (String line : script.split("\n")) {
            for (String step : line.split("\\|")) {
                if (!step.isBlank()) {
                    playStep(name, recorder, step.strip());
                }
            }
        }
    }

    static void due(String what, long got, long want) {
        if (got != want) {
            wrong++;
            System.out.println(what + " answered " + got + ", due is " + want);
        }
    }

    static void end() {
        if (wrong != 0) {
            System.out.println(wrong + " answers are not as due");
            System.exit(1);
        }
    }

    private static void playStep(String name, RainRecorder recorder, String step) {
        int sign = step.lastIndexOf('=');
        String call = step.substring(0, sign).strip();
        long want = Long.parseLong(step.substring(sign + 1).strip());
        due(name + ": " + call, answer(recorder, call), want);
    }

    private static int answer(RainRecorder recorder, String call) {
        String[] words = call.split(" +");
        if (words[0].equals("write")) {
            return write(recorder, call.substring(call.indexOf(' ') + 1));
        }
        Object[] values = new Object[words.length - 1];
        for (int i = 0; i < values.length; i++) {
            values[i] = Integer.valueOf(words[i + 1]);
        }
        return invoke(recorder, words[0], values);
    }

    static int write(RainRecorder recorder, String text) {
        int length = recorder.count(12);
        for (char character : text.toCharArray()) {
            length = recorder.type(character);
        }
        return length;
    }

    /** Calls a method of the recorder or of the model by its name. */
    static int invoke(Object target, String name, Object... values) {
        try {
            for (Method method : target.getClass().getDeclaredMethods()) {
                if (method.getName().equals(name) && method.getParameterCount() == values.length) {
                    return (Integer) method.invoke(target, values);
                }
            }
        } catch (ReflectiveOperationException e) {
            throw new IllegalStateException(name, e);
        }
        throw new IllegalArgumentException("no such call: " + name);
    }

    private Script() {
    }
}
