/**
 * Promises 1 to 6 at their edges: a test for each sentence of the document that names a boundary case.
 *
 * The name of a test is the sentence, or what is left of it without its range.
 */
public final class RainEdgesTest {
    private static final String TO_4000 = "run 1000 = 0 | run 1000 = 0 | run 1000 = 0 | run 1000 = 0 |";
    private static final String TO_5000 = TO_4000 + "run 1000 = 0 |";

    public static void main(String[] args) {
        newObject();
        presentTick();
        numberOfShowers();
        orderOfShowers();
        rangesOfShowers();
        ticksOfShowers();
        rainOfTick();
        cancel();
        shower();
        run();
        undo();
        history();
        changes();
        noChanges();
        undoneThings();
        Script.end();
    }

    /** So many showers of 1 tick and 1 unit, all with the same begin, on an object without showers. */
    private static String showers(int number, int begin) {
        StringBuilder script = new StringBuilder();
        for (int i = 0; i < number; i++) {
            script.append("addShower %d 1 1 = %d |".formatted(begin, i));
        }
        return script.toString();
    }

    private static void newObject() {
        Script.play("creates a recorder at the tick 0", "count 0 = 0");
        Script.play("there is nothing yet", """
            count 1 = 0 | count 2 = 0 | count 3 = 0 | count 10 = 0 | count 11 = 0 | count 12 = 0 | count 13 = 0
            shower 0 0 = -1 | mark 0 0 = -1 | storm 0 0 = -1 | gear 0 0 = -1 | cancel 0 = -1 | removeGears 0 = -1
            """);
        Script.play("the film and the content of the bucket, both initially 0", "count 4 = 0 | count 5 = 0");
        Script.play("the ticks that the present tip still takes, initially 0", "count 6 = 0");
        Script.play("a reserve, initially that of the setting", "count 7 = 500 | count 26 = 500 | untilStop = 500");
        Script.play("its count is initially 0", "count 8 = 0 | count 9 = 0");
        Script.play("a text, initially empty", "count 12 = 0 | fault 0 = -4 | clearText = 0");
        Script.play("the accounts of a new object", """
            account 0 = 0 | account 1 = 0 | account 2 = 0 | account 3 = 0 | account 4 = 0
            """);
        Script.play("two objects know nothing of each other", "addShower 0 1 1 = 0 | set 0 20 = 100 | write a = 1");
        Script.play("two objects know nothing of each other", """
            count 1 = 0 | count 20 = 100 | count 12 = 0 | count 11 = 0
            """);
    }

    private static void presentTick() {
        Script.play("the present tick is at most 5000", TO_4000 + "run 1000 = 0 | count 0 = 5000");
        Script.play("the present tick would be greater than 5000", TO_5000 + """
            run 1 = -3 | count 0 = 5000 | run 1000 = -3
            """);
        Script.play("the present tick would be greater than 5000 by one", TO_4000 + """
            run 1 = 0 | run 1000 = -3 | count 0 = 4001 | run 999 = 0 | count 0 = 5000
            """);
        Script.play("the last tick but one", TO_4000 + """
            run 999 = 0 | run 2 = -3 | run 1 = 0 | run 1 = -3 | count 0 = 5000
            """);
        Script.play("the last tick that goes by is 4999, and its rain falls", TO_4000 + """
            addShower 4999 2 7 = 0 | run 999 = 0 | account 0 = 0 | run 1 = 0 | account 0 = 7 | run 1 = -3 | account 0 = 7
            """);
        Script.play("back from the last tick", TO_5000 + "undo = 4 | count 0 = 4000 | run 1000 = 0 | count 0 = 5000");
    }

    private static void numberOfShowers() {
        Script.play("there are at most 12 showers: the 12th", showers(12, 20) + """
            count 1 = 12 | shower 11 0 = 20 | shower 12 0 = -1
            """);
        Script.play("LIMIT_REACHED if there are 12", showers(12, 20) + """
            addShower 20 1 1 = -3 | addShower 0 1 1 = -3 | addShower 5000 500 200 = -3 | count 1 = 12 | shower 0 0 = 20
            """);
        Script.play("INVALID_ARGUMENT rather than LIMIT_REACHED", showers(12, 20) + """
            addShower -1 1 1 = -1 | addShower 5001 1 1 = -1 | addShower 0 0 1 = -1 | addShower 0 501 1 = -1
            addShower 0 1 0 = -1 | addShower 0 1 201 = -1
            """);
        Script.play("a cancelled shower leaves room for one", showers(12, 20) + """
            cancel 5 = 11 | addShower 20 1 1 = 11 | addShower 20 1 1 = -3
            """);
        Script.play("a shower that has ended leaves room for one", showers(11, 20) + """
            addShower 0 1 1 = 0 | addShower 1 1 1 = -3 | run 1 = 0 | addShower 1 1 1 = 0 | addShower 1 1 1 = -3
            """);
        Script.play("an undone shower leaves room for one", showers(12, 20) + """
            undo = 4 | addShower 21 1 1 = 11 | addShower 21 1 1 = -3
            """);
        Script.play("a shower that has begun but not ended leaves none", showers(11, 20) + """
            addShower 0 2 1 = 0 | run 1 = 0 | addShower 1 1 1 = -3 | run 1 = 0 | addShower 2 1 1 = 0
            """);
    }

    private static void orderOfShowers() {
        Script.play("in the order of their begins: ahead of all", """
            addShower 5 1 1 = 0 | addShower 4 1 2 = 0 | shower 0 2 = 2 | shower 1 2 = 1
            """);
        Script.play("in the order of their begins: behind all", """
            addShower 5 1 1 = 0 | addShower 6 1 2 = 1 | shower 0 2 = 1 | shower 1 2 = 2
            """);
        Script.play("in the order of their begins: between", """
            addShower 4 1 1 = 0 | addShower 6 1 2 = 1 | addShower 5 9 3 = 1
            shower 0 0 = 4 | shower 1 0 = 5 | shower 1 1 = 9 | shower 1 2 = 3 | shower 2 0 = 6
            """);
        Script.play("those with equal begins in the order in which they were added", """
            addShower 5 1 1 = 0 | addShower 5 1 2 = 1 | addShower 6 1 9 = 2 | addShower 5 1 3 = 2 | addShower 4 1 8 = 0
            shower 0 2 = 8 | shower 1 2 = 1 | shower 2 2 = 2 | shower 3 2 = 3 | shower 4 2 = 9
            """);
        Script.play("the 12th ahead of all others", showers(11, 20) + """
            addShower 0 2 3 = 0 | shower 0 1 = 2 | shower 11 0 = 20
            """);
        Script.play("neither the length nor the rate orders", """
            addShower 5 500 200 = 0 | addShower 5 1 1 = 1 | shower 0 1 = 500
            """);
    }

    private static void rangesOfShowers() {
        Script.play("begin: the present tick at the least", "addShower 0 1 1 = 0 | addShower -1 1 1 = -1");
        Script.play("begin: the present tick later on", """
            run 10 = 0 | addShower 9 1 1 = -1 | count 1 = 0 | addShower 10 1 1 = 0
            """);
        Script.play("begin: 5000 at the most", "addShower 5001 1 1 = -1 | addShower 5000 1 1 = 0 | shower 0 0 = 5000");
        Script.play("begin at the tick 5000", TO_5000 + """
            addShower 4999 1 1 = -1 | addShower 5001 1 1 = -1 | addShower 5000 500 200 = 0 | count 13 = 200 | shower 0 3 = 500
            """);
        Script.play("length: 1 at the least", """
            addShower 0 0 1 = -1 | addShower 0 -1 1 = -1 | addShower 0 1 1 = 0 | shower 0 1 = 1
            """);
        Script.play("length: 500 at the most", """
            addShower 0 501 1 = -1 | addShower 0 500 1 = 0 | shower 0 1 = 500 | shower 0 3 = 500
            """);
        Script.play("rate: 1 at the least", """
            addShower 0 1 0 = -1 | addShower 0 1 -1 = -1 | addShower 0 1 1 = 0 | count 13 = 1
            """);
        Script.play("rate: 200 at the most", "addShower 0 1 201 = -1 | addShower 0 1 200 = 0 | count 13 = 200");
        Script.play("an end behind the tick 5000 is no fault", "addShower 5000 500 200 = 0 | addShower 4999 500 1 = 0");
    }

    private static void ticksOfShowers() {
        Script.play("it rains from its begin to its begin plus its length minus 1", """
            addShower 5 3 7 = 0 | run 4 = 0 | count 13 = 0 | run 1 = 0 | count 13 = 7 | run 2 = 0 | count 13 = 7
            account 0 = 14 | run 1 = 0 | count 13 = 0 | account 0 = 21 | run 9 = 0 | account 0 = 21
            """);
        Script.play("it rains in one tick with the length 1", """
            addShower 0 1 7 = 0 | count 13 = 7 | run 1 = 0 | count 13 = 0 | account 0 = 7
            """);
        Script.play("it rains in 500 ticks with the length 500", """
            set 0 500 = 100 | addShower 0 500 1 = 0 | run 499 = 0 | count 1 = 1 | count 13 = 1 | shower 0 3 = 1
            run 1 = 0 | count 1 = 0 | count 13 = 0 | account 0 = 500
            """);
        Script.play("is removed behind the last one of them", """
            addShower 2 2 1 = 0 | run 3 = 0 | count 1 = 1 | run 1 = 0 | count 1 = 0 | shower 0 0 = -1
            """);
        Script.play("those behind a removed one take its number", """
            addShower 0 2 1 = 0 | addShower 0 3 2 = 1 | addShower 2 1 3 = 2 | run 1 = 0 | count 1 = 3 | run 1 = 0 | count 1 = 2
            shower 0 2 = 2 | shower 1 2 = 3 | shower 2 0 = -1 | run 1 = 0 | count 1 = 0
            """);
        Script.play("a later one may be removed ahead of an earlier one", """
            addShower 0 9 1 = 0 | addShower 1 1 2 = 1 | addShower 5 1 3 = 2 | run 2 = 0 | count 1 = 2 | shower 0 2 = 1 | shower 1 2 = 3
            """);
        Script.play("all 12 are removed in one tick", showers(12, 0) + "run 1 = 0 | count 1 = 0 | account 0 = 12");
        Script.play("all 12 are removed in the midst of a run", showers(12, 3) + """
            run 9 = 0 | count 1 = 0 | account 0 = 12
            """);
    }

    private static void rainOfTick() {
        Script.play("the rain of a tick without showers is 0", "count 13 = 0 | addShower 1 1 9 = 0 | count 13 = 0");
        Script.play("the rain of a tick is the sum of the rates of all showers in it", """
            addShower 0 2 1 = 0 | addShower 0 1 20 = 1 | addShower 1 1 100 = 2
            count 13 = 21 | run 1 = 0 | count 13 = 101 | run 1 = 1 | count 13 = 0 | account 0 = 122
            """);
        Script.play("the greatest rain of a tick", """
            addShower 0 1 200 = 0 | addShower 0 1 200 = 1 | addShower 0 1 200 = 2 | addShower 0 1 200 = 3
            addShower 0 1 200 = 4 | addShower 0 1 200 = 5 | addShower 0 1 200 = 6 | addShower 0 1 200 = 7
            addShower 0 1 200 = 8 | addShower 0 1 200 = 9 | addShower 0 1 200 = 10 | addShower 0 1 200 = 11
            count 13 = 2400 | run 1 = 1 | account 0 = 2400 | account 1 = 100 | account 2 = 2290 | mark 0 2 = 2290
            """);
    }

    private static void cancel() {
        Script.play("its begin is the present tick", """
            run 3 = 0 | addShower 3 5 1 = 0 | cancel 0 = 0 | count 1 = 0 | count 13 = 0
            """);
        Script.play("its begin is later than the present tick by one", """
            run 3 = 0 | addShower 4 5 1 = 0 | cancel 0 = 0 | count 1 = 0
            """);
        Script.play("its begin is one tick ago", """
            addShower 0 5 1 = 0 | run 1 = 0 | cancel 0 = -2 | count 1 = 1 | shower 0 3 = 4
            """);
        Script.play("NOT_POSSIBLE in its last tick, INVALID_ARGUMENT behind it", """
            addShower 0 5 1 = 0 | run 4 = 0 | cancel 0 = -2 | run 1 = 0 | cancel 0 = -1
            """);
        Script.play("cancel: no shower with this number", """
            cancel 0 = -1 | addShower 0 1 1 = 0 | cancel 1 = -1 | cancel -1 = -1 | count 1 = 1
            """);
        Script.play("cancel: the number 12", showers(12, 5) + """
            cancel 12 = -1 | cancel 11 = 11 | cancel 11 = -1 | cancel 10 = 10
            """);
        Script.play("returns the number of showers that remain", showers(2, 5) + """
            cancel 0 = 1 | cancel 0 = 0 | cancel 0 = -1
            """);
        Script.play("the first, one between and the last cancelled", """
            addShower 1 1 1 = 0 | addShower 2 1 2 = 1 | addShower 3 1 3 = 2 | addShower 4 1 4 = 3 | addShower 5 1 5 = 4
            cancel 4 = 4 | shower 3 2 = 4 | cancel 0 = 3 | shower 0 2 = 2 | cancel 1 = 2 | shower 0 2 = 2 | shower 1 2 = 4
            """);
        Script.play("a cancelled shower does not rain", """
            addShower 0 5 9 = 0 | cancel 0 = 0 | run 9 = 0 | account 0 = 0
            """);
    }

    private static void shower() {
        Script.play("shower: no shower with this number", """
            shower 0 0 = -1 | addShower 0 1 1 = 0 | shower 1 0 = -1 | shower -1 0 = -1
            """);
        Script.play("shower: what, 0 to 3", """
            addShower 1 2 3 = 0 | shower 0 -1 = -1 | shower 0 0 = 1 | shower 0 3 = 2 | shower 0 4 = -1
            """);
        Script.play("ticks still to come before its begin", """
            addShower 3 4 5 = 0 | shower 0 3 = 4 | run 2 = 0 | shower 0 3 = 4
            """);
        Script.play("ticks still to come at its begin", "addShower 3 4 5 = 0 | run 3 = 0 | shower 0 3 = 4");
        Script.play("ticks still to come behind its first tick", "addShower 3 4 5 = 0 | run 4 = 0 | shower 0 3 = 3");
        Script.play("ticks still to come in its last tick", """
            addShower 3 4 5 = 0 | run 6 = 0 | shower 0 3 = 1 | shower 0 0 = 3 | shower 0 1 = 4
            """);
    }

    private static void run() {
        Script.play("ticks: 1 at the least", "run 0 = -1 | run -1 = -1 | count 0 = 0 | run 1 = 0 | count 0 = 1");
        Script.play("ticks: 1000 at the most", "run 1001 = -1 | count 0 = 0 | run 1000 = 0 | count 0 = 1000");
        Script.play("run: INVALID_ARGUMENT rather than LIMIT_REACHED", TO_5000 + """
            run 0 = -1 | run 1001 = -1 | run 1 = -3 | run 1000 = -3
            """);
        Script.play("the number of tips: none", "addShower 0 1 109 = 0 | run 1 = 0");
        Script.play("the number of tips: one", "addShower 0 1 110 = 0 | run 1 = 1");
        Script.play("the number of tips: in each tick", """
            set 1 0 = 2 | set 2 0 = 10 | addShower 0 500 100 = 0 | addShower 500 500 100 = 1 | run 1000 = 1000
            count 2 = 60 | mark 0 0 = 940 | mark 59 0 = 999 | account 1 = 100000
            """);
        Script.play("the number of tips: not those before", """
            set 1 0 = 2 | addShower 0 2 110 = 0 | run 1 = 1 | run 1 = 1 | run 1 = 0
            """);
    }

    private static void undo() {
        Script.play("NOT_POSSIBLE if the history is empty", "undo = -2 | count 11 = 0");
        Script.play("one state, then none", "wind = 500 | undo = 0 | undo = -2 | undo = -2");
        Script.play("the number of states that are left", showers(3, 9) + """
            undo = 2 | undo = 1 | undo = 0 | count 1 = 0 | undo = -2
            """);
        Script.play("the latest state first", """
            set 0 20 = 100 | set 0 30 = 20 | set 0 40 = 30 | undo = 2 | count 20 = 30 | undo = 1 | count 20 = 20
            undo = 0 | count 20 = 100
            """);
        Script.play("undo is no change", """
            set 0 20 = 100 | set 0 30 = 20 | undo = 1 | count 11 = 1 | undo = 0 | count 11 = 0 | count 20 = 100
            """);
    }

    private static void history() {
        Script.play("at most 5 states: the 5th", showers(5, 9) + """
            count 11 = 5 | undo = 4 | undo = 3 | undo = 2 | undo = 1 | undo = 0 | count 1 = 0 | undo = -2
            """);
        Script.play("if there are 6 states then, the oldest one is dropped", showers(6, 9) + """
            count 11 = 5 | undo = 4 | undo = 3 | undo = 2 | undo = 1 | undo = 0 | count 1 = 1 | undo = -2 | count 1 = 1
            """);
        Script.play("the oldest one is dropped each time", showers(12, 9) + """
            count 11 = 5 | undo = 4 | undo = 3 | undo = 2 | undo = 1 | undo = 0 | count 1 = 7 | undo = -2
            """);
        Script.play("changes behind an undo in a full history", showers(6, 9) + """
            undo = 4 | addShower 8 1 1 = 0 | count 11 = 5 | addShower 7 1 1 = 0 | count 11 = 5 | undo = 4 | undo = 3
            undo = 2 | undo = 1 | undo = 0 | count 1 = 2 | undo = -2
            """);
    }

    private static void change(String name, String before, String change, int states) {
        Script.play(name + " is a change", before + "|" + change + "| count 11 = %d | undo = %d".formatted(states, states - 1));
    }

    private static void changes() {
        change("addShower", "", "addShower 0 1 1 = 0", 1);
        change("cancel", "addShower 0 1 1 = 0", "cancel 0 = 0", 2);
        change("wind of a full spring", "", "wind = 500", 1);
        change("wind", "run 1 = 0", "wind = 499", 2);
        change("addGears", "", "addGears 8 8 = 1", 1);
        change("removeGears", "addGears 8 8 = 1", "removeGears 0 = 0", 2);
        change("set", "", "set 0 99 = 100", 1);
        change("set of the same value", "", "set 0 100 = 100", 1);
        change("run", "", "run 1 = 0", 1);
        change("lay", "write 0+1*1; = 6", "lay = 1", 1);
        change("lay of an empty text", "", "lay = 0", 1);
    }

    private static void noChanges() {
        Script.play("type and clearText are no changes", """
            type 48 = 1 | count 11 = 0 | clearText = 1 | count 11 = 0 | undo = -2
            """);
        Script.play("a question is no change", """
            count 0 = 0 | account 0 = 0 | shower 0 0 = -1 | mark 0 0 = -1 | gear 0 0 = -1 | storm 0 0 = -1 | greatestStorm = -4
            gapForOne = -4 | ifRun 1 0 = 0 | capacityFor 1 0 = 20 | untilStop = 500 | gearsFor 360 = 8008 | fault 0 = -4
            count 11 = 0 | undo = -2
            """);
        Script.play("a call that returns an error is no change", """
            addShower -1 1 1 = -1 | cancel 0 = -1 | addGears 7 8 = -1 | removeGears 0 = -1 | set 8 0 = -1 | run 0 = -1
            write x = 1 | lay = -2 | count 11 = 0 | undo = -2
            """);
    }

    private static void undone(String what, String before, String change, String after) {
        Script.play("undone: " + what, before + "| run 1 = 0 |" + after + "|" + change + "| undo = 2 |" + after);
    }

    private static void undoneThings() {
        undone("the tick", "wind = 500", "run 7 = 0", "count 0 = 1");
        undone("a shower added", "addShower 9 1 1 = 0", "addShower 8 1 1 = 0", "count 1 = 1 | shower 0 0 = 9 | shower 1 0 = -1");
        undone("a shower cancelled", "addShower 9 8 7 = 0", "cancel 0 = 0", "count 1 = 1 | shower 0 0 = 9 | shower 0 1 = 8 | shower 0 2 = 7");
        undone("a shower ended", "addShower 0 5 7 = 0", "run 9 = 0", "count 1 = 1 | shower 0 0 = 0 | shower 0 3 = 4 | count 13 = 7");
        undone("the film", "addShower 0 2 3 = 0", "run 1 = 0", "count 4 = 3 | account 0 = 3");
        undone("the bucket", "addShower 0 2 30 = 0", "run 1 = 0", "count 4 = 10 | count 5 = 20");
        undone("what was tipped, over and lost", "addShower 0 9 90 = 0", "run 4 = 1",
                "account 0 = 90 | account 1 = 0 | account 2 = 0 | account 3 = 0 | count 2 = 0 | count 6 = 0");
        undone("what dried", "set 4 1 = 0", "run 5 = 0", "account 4 = 0");
        undone("the setting", "wind = 500", "set 7 1000 = 60", "count 27 = 60");
        undone("the reserve", "set 6 20 = 500", "wind = 499", "count 7 = 499 | count 8 = 1");
        undone("the count", "wind = 500", "run 5 = 0", "count 7 = 499 | count 8 = 1 | count 9 = 1");
        undone("a pair added", "addGears 8 9 = 1", "addGears 10 11 = 2", "count 10 = 1 | gear 0 0 = 8 | gear 0 1 = 9 | gear 1 0 = -1");
        undone("a pair removed", "addGears 8 9 = 1", "removeGears 0 = 0", "count 10 = 1 | gear 0 0 = 8 | gear 0 1 = 9");
        undone("showers laid", "write 0+9*1;2+1*2; = 12 | addShower 2 1 9 = 0", "lay = 2", "count 1 = 1 | shower 0 2 = 9 | count 12 = 12");
        Script.play("undone: the tip under way", """
            addShower 0 1 110 = 0 | run 1 = 1 | count 6 = 2 | run 1 = 0 | count 6 = 1 | undo = 2 | count 6 = 2 | count 2 = 1
            undo = 1 | count 6 = 0 | count 2 = 0 | account 1 = 0
            """);
        Script.play("undone: what dried of the bucket", """
            set 4 5 = 0 | addShower 0 1 30 = 0 | run 2 = 0 | account 4 = 6 | count 5 = 15 | run 2 = 0 | account 4 = 18 | count 5 = 5
            undo = 3 | account 4 = 6 | count 5 = 15 | count 4 = 9
            """);
        Script.play("undone: the places and what was over of 60 marks", """
            set 1 0 = 2 | set 2 0 = 10 | addShower 1 60 101 = 0 | addShower 61 4 150 = 1 | run 61 = 60 | mark 0 1 = 1 | run 4 = 4
            mark 0 1 = 5 | mark 59 1 = 64 | mark 59 2 = 50 | mark 56 2 = 50 | mark 55 2 = 1
            undo = 4 | mark 0 1 = 1 | mark 59 1 = 60 | mark 59 2 = 1 | mark 56 2 = 1
            """);
        Script.play("undone: the oldest of 60 marks", """
            set 1 0 = 2 | set 2 0 = 10 | addShower 0 62 100 = 0 | run 60 = 60 | run 1 = 1 | mark 0 0 = 1 | run 1 = 1 | mark 0 0 = 2
            undo = 4 | mark 0 0 = 1 | mark 59 0 = 60 | undo = 3 | mark 0 0 = 0 | mark 59 0 = 59 | count 2 = 60
            undo = 2 | count 2 = 0
            """);
        Script.play("everything but the text", "write abc = 3 | wind = 500 | write d = 4 | undo = 0 | count 12 = 4");
        Script.play("everything but the text, when it was emptied", """
            write abc = 3 | wind = 500 | clearText = 3 | undo = 0 | count 12 = 0
            """);
    }
}
