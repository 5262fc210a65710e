import java.util.ArrayList;
import java.util.List;

/**
 * A call that returns an error changes nothing, nor does a question: two objects go the same way, one of them is
 * also asked or refused something, and all that later calls show of both is compared, behind each undo, too.
 */
public final class RefusalTest {
    private static final int[] EXTREMES = {Integer.MIN_VALUE, Integer.MIN_VALUE + 1, -1000000, -2, Integer.MAX_VALUE - 1,
        Integer.MAX_VALUE, 1 << 16, 1 << 30};
    private static final int MOST_CALLS = 512;

    private static final String BARE = "set 1 0 = 2 | set 2 0 = 10 |";
    private static final String TO_5000 = "run 1000 = 0 | run 1000 = 0 | run 1000 = 0 | run 1000 = 0 | run 1000 = 0 |";
    private static final String TWELVE = "0+9*3;".repeat(12);

    /** Called in each state: what is out of its range in any. */
    private static final String ALWAYS_INVALID = """
        addShower -1 1 1 = -1 | addShower 5001 1 1 = -1 | addShower 5000 0 1 = -1 | addShower 5000 501 1 = -1
        addShower 5000 1 0 = -1 | addShower 5000 1 201 = -1 | cancel -1 = -1 | cancel 12 = -1 | shower -1 0 = -1
        shower 12 0 = -1 | shower 0 -1 = -1 | shower 0 4 = -1 | run 0 = -1 | run 1001 = -1 | set -1 50 = -1 | set 8 50 = -1
        set 0 19 = -1 | set 0 501 = -1 | set 1 -1 = -1 | set 1 21 = -1 | set 2 -1 = -1 | set 2 201 = -1 | set 3 -1 = -1
        set 3 51 = -1 | set 4 -1 = -1 | set 4 51 = -1 | set 5 9 = -1 | set 5 1001 = -1 | set 6 0 = -1 | set 6 2001 = -1
        set 7 0 = -1 | set 7 1001 = -1 | addGears 7 8 = -1 | addGears 8 7 = -1 | addGears 121 120 = -1 | addGears 120 121 = -1
        removeGears -1 = -1 | removeGears 3 = -1 | gear -1 0 = -1 | gear 3 0 = -1 | gear 0 -1 = -1 | gear 0 2 = -1
        count -1 = -1 | count 14 = -1 | count 19 = -1 | count 28 = -1 | account -1 = -1 | account 5 = -1 | mark -1 0 = -1
        mark 60 0 = -1 | mark 0 -1 = -1 | mark 0 3 = -1 | storm -1 0 = -1 | storm 60 0 = -1 | storm 0 -1 = -1 | storm 0 6 = -1
        ifRun 0 0 = -1 | ifRun 1001 0 = -1 | ifRun 1 -1 = -1 | ifRun 1 8 = -1 | capacityFor 0 0 = -1 | capacityFor 1001 0 = -1
        capacityFor 1 -1 = -1 | capacityFor 1 100001 = -1 | gearsFor 0 = -1 | gearsFor 100001 = -1 | type 31 = -1 | type 127 = -1
        fault -1 = -1 | fault 2 = -1
        """;

    public static void main(String[] args) {
        inNewObject();
        withText();
        inRain();
        atLimits();
        atLastTick();
        extremeArguments();
        lastOf512Calls();
        Script.end();
    }

    private static void inNewObject() {
        changesNothing("a new object", "", ALWAYS_INVALID + """
            cancel 0 = -1 | shower 0 0 = -1 | undo = -2 | removeGears 0 = -1 | gear 0 0 = -1 | mark 0 0 = -1 | storm 0 0 = -1
            greatestStorm = -4 | gapForOne = -4 | gearsFor 1 = -4 | fault 0 = -4 | fault 1 = -4
            """);
        changesNothing("a new object, asked", "", """
            count 0 = 0 | count 9 = 0 | account 0 = 0 | ifRun 1000 4 = 0 | capacityFor 1000 100000 = 20 | untilStop = 500
            gearsFor 360 = 8008 | clearText = 0
            """);
    }

    private static void withText() {
        changesNothing("a text", "addShower 3 1 2 = 0 | write 2+3*4;5+6*7; = 12 |", ALWAYS_INVALID + """
            cancel 1 = -1 | fault 0 = -4 | fault 1 = -4 | count 12 = 12 | ifRun 9 5 = 0 | capacityFor 9 0 = 20
            """);
    }

    private static void inRain() {
        String rain = """
            addGears 50 20 = 1 | set 3 4 = 1 | set 7 2 = 60 | addShower 0 40 25 = 0 | addShower 9 3 120 = 1 | addShower 30 9 7 = 2
            run 12 = 2 | write 2+3*4;5+6*7;x = 13 |
            """;
        changesNothing("a rain", rain, ALWAYS_INVALID + """
            addShower 11 1 1 = -1 | cancel 0 = -2 | cancel 2 = -1 | shower 2 0 = -1 | removeGears 1 = -1 | gear 1 0 = -1 | mark 2 0 = -1
            storm 2 0 = -1 | lay = -2 | capacityFor 1000 0 = -4 | gearsFor 1 = -4
            """);
        changesNothing("a rain, asked", rain, """
            shower 0 3 = 28 | gear 0 1 = 20 | count 3 = 2 | count 13 = 25 | mark 1 1 = 22 | storm 1 5 = 1 | greatestStorm = 0
            gapForOne = 5 | ifRun 5 0 = 1 | capacityFor 9 0 = 225 | ifRun 500 1 = 500 | capacityFor 1000 1000 = 20 | untilStop = 488 | gearsFor 360 = 8008
            fault 0 = 12 | fault 1 = 1 | account 0 = 660
            """);
    }

    private static void atLimits() {
        String limits = BARE + """
            addShower 0 70 100 = 0 | run 70 = 70 | addGears 8 9 = 1 | addGears 10 11 = 2 | addGears 12 13 = 3
            """ + "| write %s = 72 | lay = 12 | write %s = 100 |".formatted(TWELVE, "z".repeat(28));
        changesNothing("all limits", limits, ALWAYS_INVALID + """
            addShower 70 1 1 = -3 | addShower 5000 500 200 = -3 | addGears 8 8 = -3 | type 32 = -3 | type 126 = -3 | lay = -2
            """);
        changesNothing("all limits, asked", limits, """
            mark 59 0 = 69 | storm 0 1 = 60 | storm 0 5 = 30 | ifRun 1000 0 = 3 | capacityFor 20 0 = 36 | fault 0 = 0 | fault 1 = 4
            greatestStorm = 0 | gapForOne = 1 | shower 11 2 = 3
            """);
        changesNothing("12 showers that have begun", "write %s = 72 | lay = 12 | run 1 = 0 |".formatted(TWELVE), """
            cancel 0 = -2 | cancel 11 = -2 | cancel 12 = -1 | addShower 1 1 1 = -3 | addShower 0 1 1 = -1 | lay = -2
            """);
    }

    private static void atLastTick() {
        String last = TO_5000 + "addShower 5000 3 9 = 0 | write 1+1*1; = 6 | wind = 0 |";
        changesNothing("the last tick", last, ALWAYS_INVALID + """
            run 1 = -3 | run 1000 = -3 | ifRun 1 0 = -3 | ifRun 1000 7 = -3 | capacityFor 1 0 = -3 | capacityFor 1000 100000 = -3
            addShower 4999 1 1 = -1 | lay = -2 | fault 0 = 0 | fault 1 = 3
            """);
        changesNothing("the last tick but one", last + "undo = 4 | undo = 3 | undo = 2 | run 999 = 0 |", """
            run 2 = -3 | ifRun 2 0 = -3 | capacityFor 2 0 = -3 | ifRun 1 4 = 0 | capacityFor 1 0 = 20
            """);
    }

    private static void changesNothing(String state, String before, String calls) {
        for (int undos = 0; undos <= 6; undos++) {
            RainRecorder plain = Script.play(state, before);
            RainRecorder tried = Script.play(state, before);
            Script.play(state, tried, calls);
            for (int i = 0; i < undos; i++) {
                plain.undo();
                tried.undo();
            }
            String name = "%s, %d times undone: all that is shown".formatted(state, undos);
            same(name, shown(tried), shown(plain));
            same(name + " of the text", laid(tried), laid(plain));
            same(name + " later", ranOn(tried), ranOn(plain));
        }
    }

    private static void same(String what, List<Integer> got, List<Integer> want) {
        Script.due(what, got.equals(want) ? 1 : 0, 1);
    }

    private static List<Integer> shown(RainRecorder recorder) {
        List<Integer> shown = new ArrayList<>();
        for (int what = 0; what < 28; what++) {
            shown.add(recorder.count(what));
        }
        for (int what = 0; what < 5; what++) {
            shown.add(recorder.account(what));
        }
        for (int shower = 0; shower < recorder.count(1); shower++) {
            shown.add(recorder.shower(shower, 0));
            shown.add(recorder.shower(shower, 1));
            shown.add(recorder.shower(shower, 2));
        }
        for (int pair = 0; pair < recorder.count(10); pair++) {
            shown.add(recorder.gear(pair, 0));
            shown.add(recorder.gear(pair, 1));
        }
        for (int mark = 0; mark < recorder.count(2); mark++) {
            shown.add(recorder.mark(mark, 0));
            shown.add(recorder.mark(mark, 2));
        }
        shown.add(recorder.greatestStorm());
        shown.add(recorder.untilStop());
        shown.add(recorder.fault(0));
        shown.add(recorder.fault(1));
        return shown;
    }

    /** What the text holds is seen in what it lays. */
    private static List<Integer> laid(RainRecorder recorder) {
        List<Integer> laid = new ArrayList<>();
        laid.add(recorder.lay());
        for (int shower = 0; shower < recorder.count(1); shower++) {
            laid.add(recorder.shower(shower, 0));
            laid.add(recorder.shower(shower, 2));
        }
        return laid;
    }

    private static List<Integer> ranOn(RainRecorder recorder) {
        List<Integer> later = new ArrayList<>();
        for (int ticks : new int[] {1, 1, 2, 30}) {
            later.add(recorder.run(ticks));
            for (int what = 4; what <= 9; what++) {
                later.add(recorder.count(what));
            }
        }
        for (int what = 0; what < 5; what++) {
            later.add(recorder.account(what));
        }
        return later;
    }

    /** In no state may an argument far out of its range be taken for another. */
    private static void extremeArguments() {
        String rain = "addShower 0 9 120 = 0 | addGears 8 9 = 1 | run 5 = 2 |";
        for (int extreme : EXTREMES) {
            Script.play("far out of range", rain + """
                addShower X 1 1 = -1 | addShower 5 X 1 = -1 | addShower 5 1 X = -1 | cancel X = -1 | shower X 0 = -1 | shower 0 X = -1
                run X = -1 | set X 50 = -1 | set 0 X = -1 | set 7 X = -1 | addGears X 8 = -1 | addGears 8 X = -1 | removeGears X = -1
                gear X 0 = -1 | gear 0 X = -1 | count X = -1 | account X = -1 | mark X 0 = -1 | mark 0 X = -1 | storm X 0 = -1
                storm 0 X = -1 | ifRun X 0 = -1 | ifRun 1 X = -1 | capacityFor X 0 = -1 | capacityFor 1 X = -1 | type X = -1 | fault X = -1
                gearsFor X = -1 | count 11 = 3
                """.replace("X", String.valueOf(extreme)).replace("gearsFor 65536 = -1", "gearsFor 65536 = -4")
                .replace("capacityFor 1 65536 = -1", "capacityFor 1 65536 = 20"));
        }
    }

    /** An object is used for at most 512 calls: the last one of them answers as the first ones do. */
    private static void lastOf512Calls() {
        RainRecorder recorder = new RainRecorder();
        int calls = 0;
        for (; calls < MOST_CALLS - 2; calls++) {
            Script.due("one of 512 calls", recorder.set(0, 20 + calls % 400), calls == 0 ? 100 : 20 + (calls - 1) % 400);
        }
        Script.due("the last call but one", recorder.undo(), 4);
        Script.due("the last call", recorder.count(20), 20 + (calls - 2) % 400);
    }
}
