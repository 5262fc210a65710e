/**
 * Promises 15 to 21, storms and estimates at their edges: a test for each sentence of the document that names a
 * boundary case.
 */
public final class StormEdgesTest {
    private static final String TO_4000 = "run 1000 = 0 | run 1000 = 0 | run 1000 = 0 | run 1000 = 0 |";
    /** Neither a film nor a tip that takes time: each tick with 100 units or more tips. */
    private static final String BARE = "set 1 0 = 2 | set 2 0 = 10 |";

    public static void main(String[] args) {
        gapOfStorms();
        numbersOfStorms();
        stormsOfKeptMarks();
        amount();
        loss();
        peak();
        greatestStorm();
        gapForOne();
        ifRun();
        ifRunAndRun();
        capacityFor();
        leastCapacity();
        untilStop();
        gearsFor();
        wheelsOfGearsFor();
        Script.end();
    }

    /** The calls after which there is a mark at each of the ticks, at most 12 of them. */
    private static String marksAt(int... ticks) {
        StringBuilder script = new StringBuilder(BARE);
        for (int i = 0; i < ticks.length; i++) {
            script.append("addShower %d 1 100 = %d |".formatted(ticks[i], i));
        }
        int tick = 0;
        for (int i = 0; i < ticks.length; i++) {
            for (; ticks[i] - tick >= 1000; tick += 1000) {
                script.append("run 1000 = 0 |");
            }
            script.append("run %d = 1 |".formatted(ticks[i] + 1 - tick));
            tick = ticks[i] + 1;
        }
        return script.toString();
    }

    private static void gapOfStorms() {
        Script.play("differ by just the gap", marksAt(0, 60) + """
            count 3 = 1 | storm 0 1 = 2 | storm 0 2 = 60 | storm 1 0 = -1
            """);
        Script.play("differ by one more than the gap", marksAt(0, 61) + """
            count 3 = 2 | storm 0 1 = 1 | storm 1 0 = 1 | storm 1 1 = 1
            """);
        Script.play("differ by one less than the gap", marksAt(0, 59) + "count 3 = 1");
        Script.play("the least gap", "set 7 1 = 60 |" + marksAt(3, 4, 6) + """
            count 3 = 2 | storm 0 1 = 2 | storm 0 2 = 1 | storm 1 0 = 2 | storm 1 1 = 1
            """);
        Script.play("the greatest gap", "set 7 1000 = 60 |" + marksAt(0, 1000, 2001) + """
            count 3 = 2 | storm 0 1 = 2 | storm 0 2 = 1000 | storm 1 0 = 2
            """);
        Script.play("each mark and the one before, not the first one", marksAt(0, 60, 120, 180) + """
            count 3 = 1 | storm 0 1 = 4 | storm 0 2 = 180
            """);
        Script.play("a gap set later counts at once", marksAt(0, 10, 30) + """
            count 3 = 1 | set 7 19 = 60 | count 3 = 2 | set 7 9 = 19 | count 3 = 3 | set 7 20 = 9 | count 3 = 1
            """);
    }

    private static void numbersOfStorms() {
        Script.play("no storm without marks", "count 3 = 0 | storm 0 0 = -1 | storm -1 0 = -1");
        Script.play("storm: no storm with this number", marksAt(0, 100) + """
            storm -1 0 = -1 | storm 0 0 = 0 | storm 1 0 = 1 | storm 2 0 = -1
            """);
        Script.play("storm: what, 0 to 5", marksAt(0, 7) + """
            storm 0 -1 = -1 | storm 0 0 = 0 | storm 0 5 = 2 | storm 0 6 = -1
            """);
        Script.play("a storm of one mark", marksAt(7) + """
            set 1 20 = 0 | count 3 = 1 | storm 0 0 = 0 | storm 0 1 = 1 | storm 0 2 = 0 | storm 0 3 = 100 | storm 0 4 = 0 | storm 0 5 = 1
            """);
        Script.play("each mark its own storm", "set 7 1 = 60 |" + marksAt(0, 2, 4) + """
            count 3 = 3 | storm 2 0 = 2 | storm 2 1 = 1 | storm 3 0 = -1
            """);
    }

    private static void stormsOfKeptMarks() {
        String lone = BARE + "addShower 0 1 100 = 0 | addShower 61 500 100 = 1 |";
        Script.play("the oldest mark is kept yet", lone + """
            run 61 = 1 | run 59 = 59 | count 3 = 2 | storm 0 1 = 1 | storm 1 1 = 59 | gapForOne = 61
            """);
        Script.play("a storm ends when its marks are removed", lone + """
            run 61 = 1 | run 60 = 60 | count 2 = 60 | count 3 = 1 | storm 0 0 = 0 | storm 0 1 = 60 | storm 0 2 = 59
            gapForOne = 1
            """);
        Script.play("a storm of 60 marks", BARE + """
            set 1 20 = 0 | set 1 0 = 20 | addShower 0 200 100 = 0 | run 200 = 200 | storm 0 1 = 60 | storm 0 2 = 59
            storm 0 3 = 6000
            """);
    }

    private static void amount() {
        Script.play("the capacity as it is now", marksAt(0, 9) + """
            storm 0 3 = 200 | set 0 20 = 100 | storm 0 3 = 40 | set 0 500 = 20 | storm 0 3 = 1000
            """);
    }

    private static void loss() {
        Script.play("over its marks but the first one", marksAt(5, 15) + "set 1 1 = 0 | storm 0 4 = 10");
        Script.play("the mark before belongs to another storm", marksAt(0, 61, 71) + """
            set 1 1 = 0 | storm 1 4 = 10 | storm 0 4 = 0
            """);
        Script.play("with 0 ticks of a tip no loss", marksAt(0, 1, 2) + "storm 0 4 = 0");
        Script.play("a difference of 1", marksAt(0, 1) + "set 1 1 = 0 | storm 0 4 = 100");
        Script.play("each quotient is rounded down", marksAt(0, 3, 6) + "set 1 1 = 0 | storm 0 4 = 66");
        Script.play("just below the next whole number", marksAt(0, 51) + """
            set 1 1 = 0 | storm 0 4 = 1 | set 1 2 = 1 | storm 0 4 = 3
            """);
        Script.play("a quotient below 1", "set 7 1000 = 60 |" + marksAt(0, 101) + """
            set 1 1 = 0 | storm 0 4 = 0 | set 0 101 = 100 | storm 0 4 = 1
            """);
        Script.play("the capacity and the ticks as they are now", marksAt(0, 10) + """
            set 1 3 = 0 | storm 0 4 = 30 | set 0 50 = 100 | storm 0 4 = 15
            """);
        Script.play("the greatest loss", BARE + """
            addShower 0 100 100 = 0 | run 100 = 100 | set 1 20 = 0 | set 0 500 = 100 | storm 0 4 = 590000
            storm 0 3 = 30000 | greatestStorm = 0
            """);
    }

    private static void peak() {
        Script.play("the first and the last of 30 successive ticks", marksAt(0, 29) + "storm 0 5 = 2");
        Script.play("one tick more than 30", marksAt(0, 30) + "storm 0 5 = 1");
        Script.play("the peak at the first marks", marksAt(0, 1, 2, 50, 51) + "storm 0 5 = 3");
        Script.play("the peak in the midst", marksAt(0, 40, 50, 60, 110) + "storm 0 5 = 3");
        Script.play("the peak at the last marks", marksAt(0, 50, 60, 79) + "storm 0 5 = 3 | count 3 = 1");
        Script.play("no more than 30 in 30 ticks", BARE + """
            addShower 0 60 100 = 0 | run 60 = 60 | storm 0 1 = 60 | storm 0 5 = 30
            """);
        Script.play("of its marks only", "set 7 5 = 60 |" + marksAt(0, 4, 10, 14, 18) + """
            count 3 = 2 | storm 0 5 = 2 | storm 1 5 = 3
            """);
    }

    private static void greatestStorm() {
        Script.play("NOT_FOUND if there is none", """
            greatestStorm = -4 | addShower 0 1 109 = 0 | run 1 = 0 | greatestStorm = -4
            """);
        Script.play("the only one", marksAt(0) + "greatestStorm = 0");
        Script.play("of several the first one", marksAt(0, 100, 200) + "greatestStorm = 0");
        Script.play("the last one", marksAt(0, 100, 110) + "greatestStorm = 1");
        Script.play("one between", marksAt(0, 100, 110, 200) + "greatestStorm = 1");
        Script.play("the first of the two greatest", marksAt(0, 100, 110, 200, 210) + "greatestStorm = 1");
        Script.play("equal amounts, a greater loss", marksAt(0, 10, 100, 109) + """
            greatestStorm = 0 | set 1 1 = 0 | greatestStorm = 1 | storm 0 4 = 10 | storm 1 4 = 11
            """);
        Script.play("equal amounts, the loss greater by nothing", marksAt(0, 51, 200, 252) + """
            set 1 1 = 0 | storm 0 4 = 1 | storm 1 4 = 1 | greatestStorm = 0
            """);
        Script.play("the loss outweighs the amount", marksAt(0, 50, 100, 200, 201) + """
            greatestStorm = 0 | set 1 2 = 0 | storm 0 3 = 300 | storm 0 4 = 8 | storm 1 3 = 200 | storm 1 4 = 200 | greatestStorm = 1
            """);
        Script.play("equal sums of other amounts and losses", marksAt(0, 60, 120, 300, 302) + """
            set 0 20 = 100 | set 1 3 = 0 | storm 0 3 = 60 | storm 0 4 = 2 | storm 1 3 = 40 | storm 1 4 = 30 | greatestStorm = 1
            set 1 2 = 3 | storm 0 4 = 0 | storm 1 4 = 20 | greatestStorm = 0
            """);
    }

    private static void gapForOne() {
        Script.play("NOT_FOUND if there are no marks", "gapForOne = -4");
        Script.play("one mark", marksAt(5) + "gapForOne = 1");
        Script.play("the least gap is 1", marksAt(5, 6) + "gapForOne = 1");
        Script.play("a gap of 2", marksAt(5, 7) + "gapForOne = 2");
        Script.play("the gap 1000", marksAt(0, 1000) + "gapForOne = 1000");
        Script.play("none is long enough", marksAt(0, 1001) + "gapForOne = -4");
        Script.play("none is long enough between the last ones", marksAt(0, 5, 1006) + "gapForOne = -4");
        Script.play("the widest of several", marksAt(0, 5, 25, 30) + """
            gapForOne = 20 | set 7 20 = 60 | count 3 = 1 | set 7 19 = 20 | count 3 = 2 | gapForOne = 20
            """);
    }

    private static void ifRun() {
        Script.play("ifRun: ticks, 1 to 1000", """
            ifRun 0 0 = -1 | ifRun -1 0 = -1 | ifRun 1 0 = 0 | ifRun 1000 0 = 0 | ifRun 1001 0 = -1
            """);
        Script.play("ifRun: what, 0 to 7", "ifRun 5 -1 = -1 | ifRun 5 0 = 0 | ifRun 5 7 = 5 | ifRun 5 8 = -1");
        Script.play("ifRun: the present tick would be just 5000", TO_4000 + """
            ifRun 1000 7 = 140 | run 999 = 0 | ifRun 1 0 = 0
            """);
        Script.play("ifRun: the present tick would be greater than 5000", TO_4000 + """
            run 1 = 0 | ifRun 1000 0 = -3 | ifRun 999 0 = 0 | run 999 = 0 | ifRun 1 0 = -3
            """);
        Script.play("ifRun: INVALID_ARGUMENT rather than LIMIT_REACHED", TO_4000 + """
            run 1000 = 0 | ifRun 1 8 = -1 | ifRun 1 -1 = -1 | ifRun 0 0 = -1 | ifRun 1001 0 = -1 | ifRun 1 0 = -3
            """);
        Script.play("accounts that would not grow", """
            addShower 0 1 150 = 0 | run 3 = 1 | ifRun 1 1 = 0 | ifRun 1 2 = 0 | ifRun 1 3 = 0 | ifRun 1 4 = 1
            set 3 0 = 1 | ifRun 9 4 = 0
            """);
        Script.play("by how much they would grow, not what they would be", BARE + """
            addShower 0 9 110 = 0 | run 5 = 5 | ifRun 2 1 = 200 | ifRun 2 2 = 20 | ifRun 4 0 = 4 | ifRun 5 0 = 4
            """);
        Script.play("the place then, behind the stop of the clock", """
            set 6 5 = 500 | wind = 500 | ifRun 4 7 = 4 | ifRun 5 7 = 5 | ifRun 6 7 = 5 | ifRun 1000 7 = 5 | count 9 = 0
            """);
        Script.play("nothing changes", BARE + """
            addShower 0 500 100 = 0 | run 60 = 60 | ifRun 400 0 = 400 | mark 0 0 = 0 | count 2 = 60 | count 0 = 60 | count 1 = 1
            ifRun 1000 0 = 440 | count 1 = 1 | shower 0 3 = 440 | count 7 = 440 | account 0 = 6000 | count 11 = 4
            """);
    }

    /** What would be, asked before, is what is found when the ticks have gone by. */
    private static void ifRunAndRun() {
        for (int ticks : new int[] {1, 2, 3, 7, 19, 20, 21, 40, 499, 1000}) {
            RainRecorder recorder = Script.play("mixed", """
                set 0 50 = 100 | set 4 7 = 0 | addGears 50 20 = 1 | addShower 0 20 13 = 0 | addShower 6 3 120 = 1 | run 7 = 1
                addShower 30 200 9 = 2
                """);
            int[] would = new int[8];
            int[] before = new int[5];
            for (int what = 0; what < 8; what++) {
                would[what] = recorder.ifRun(ticks, what);
            }
            for (int what = 0; what < 5; what++) {
                before[what] = recorder.account(what);
            }
            Script.due("tips in " + ticks, would[0], recorder.run(ticks));
            for (int what = 1; what <= 4; what++) {
                Script.due("account %d in %d".formatted(what, ticks), would[what], recorder.account(what) - before[what]);
            }
            Script.due("film in " + ticks, would[5], recorder.count(4));
            Script.due("bucket in " + ticks, would[6], recorder.count(5));
            Script.due("place in " + ticks, would[7], recorder.count(9));
        }
    }

    private static void capacityFor() {
        Script.play("capacityFor: ticks, 1 to 1000", """
            capacityFor 0 0 = -1 | capacityFor -1 0 = -1 | capacityFor 1 0 = 20 | capacityFor 1000 0 = 20
            capacityFor 1001 0 = -1
            """);
        Script.play("capacityFor: most, 0 to 100000", """
            capacityFor 1 -1 = -1 | capacityFor 1 0 = 20 | capacityFor 1 100000 = 20 | capacityFor 1 100001 = -1
            """);
        Script.play("capacityFor: the present tick would be just 5000", TO_4000 + """
            capacityFor 1000 0 = 20 | run 999 = 0 | capacityFor 1 0 = 20
            """);
        Script.play("capacityFor: the present tick would be greater than 5000", TO_4000 + """
            run 1 = 0 | capacityFor 1000 0 = -3 | capacityFor 999 0 = 20 | run 999 = 0 | capacityFor 1 0 = -3
            """);
        Script.play("capacityFor: INVALID_ARGUMENT rather than LIMIT_REACHED", TO_4000 + """
            run 1000 = 0 | capacityFor 1 -1 = -1 | capacityFor 1 100001 = -1 | capacityFor 0 0 = -1
            capacityFor 1001 0 = -1
            """);
        Script.play("capacityFor: LIMIT_REACHED rather than NOT_FOUND", BARE + TO_4000 + """
            run 990 = 0 | addShower 4990 20 200 = 0 | addShower 4990 20 200 = 1 | addShower 4990 20 200 = 2
            capacityFor 10 0 = -4 | capacityFor 11 0 = -3
            """);
    }

    private static void leastCapacity() {
        Script.play("at most so much: just so much", BARE + """
            addShower 0 1 100 = 0 | capacityFor 1 50 = 50 | capacityFor 1 51 = 49 | capacityFor 1 49 = 51
            """);
        Script.play("the least capacity is enough", BARE + """
            addShower 0 1 100 = 0 | capacityFor 1 80 = 20 | capacityFor 1 79 = 21
            """);
        Script.play("only the greatest capacity is enough", BARE + """
            addShower 0 1 200 = 0 | addShower 0 1 200 = 1 | addShower 0 1 100 = 2 | capacityFor 1 0 = 500
            """);
        Script.play("not even the greatest capacity is enough", BARE + """
            addShower 0 1 200 = 0 | addShower 0 1 200 = 1 | addShower 0 1 101 = 2 | capacityFor 1 0 = -4
            capacityFor 1 1 = 500
            """);
        Script.play("a bucket that does not fill loses nothing", BARE + """
            addShower 0 1 200 = 0 | addShower 0 1 200 = 1 | addShower 0 1 99 = 2 | capacityFor 1 0 = 499
            """);
        Script.play("lost and over together", """
            set 2 0 = 10 | addShower 0 2 100 = 0 | capacityFor 2 150 = 50 | capacityFor 2 149 = 51
            capacityFor 2 99 = 101
            """);
        Script.play("a lesser capacity may do where a greater does not", """
            set 2 0 = 10 | addShower 0 1 100 = 0 | addShower 3 1 100 = 1 | capacityFor 4 0 = 100 | capacityFor 1 0 = 100 | capacityFor 4 1 = 100
            capacityFor 4 2 = 99
            """);
        Script.play("what was lost and over before does not count", """
            addShower 0 3 150 = 0 | run 2 = 1 | account 2 = 40 | account 3 = 150 | capacityFor 1 150 = 20
            capacityFor 1 149 = -4
            """);
        Script.play("the tip under way goes on", """
            set 2 0 = 10 | addShower 0 1 100 = 0 | addShower 2 1 30 = 1 | run 1 = 1 | capacityFor 2 0 = -4
            capacityFor 2 30 = 20 | run 1 = 0 | capacityFor 1 29 = -4
            """);
        Script.play("the content of the bucket counts", BARE + """
            addShower 0 1 90 = 0 | run 1 = 0 | capacityFor 1 0 = 90 | capacityFor 1 69 = 21 | capacityFor 1 70 = 20
            """);
        Script.play("the bucket dries in the ticks to come without rain", BARE + """
            set 4 10 = 0 | addShower 0 1 60 = 0 | addShower 2 1 60 = 1 | capacityFor 3 0 = 60 | run 1 = 0 | count 5 = 60
            set 0 200 = 100 | capacityFor 1 0 = 50 | capacityFor 2 0 = 110 | capacityFor 2 59 = 26 | capacityFor 2 60 = 25
            """);
        Script.play("the film dries in the ticks to come without rain", """
            set 1 0 = 2 | set 3 4 = 1 | addShower 0 1 10 = 0 | addShower 3 1 30 = 1 | run 1 = 0 | capacityFor 3 0 = 22
            capacityFor 3 2 = 20 | capacityFor 3 1 = 21
            """);
        Script.play("the most that may be asked for", BARE + """
            addShower 0 500 200 = 0 | addShower 0 500 20 = 1 | capacityFor 500 100000 = 20 | addShower 0 1 1 = 2
            capacityFor 500 100000 = 21 | addShower 1 499 200 = 3 | capacityFor 500 100000 = 220
            """);
        Script.play("the setting stays", BARE + """
            addShower 0 1 200 = 0 | capacityFor 1 0 = 200 | count 20 = 100 | count 0 = 0 | count 1 = 1 | count 5 = 0
            account 0 = 0 | count 11 = 3 | run 1 = 1 | mark 0 2 = 100
            """);
    }

    private static void untilStop() {
        Script.play("untilStop of a new object", "untilStop = 500");
        Script.play("untilStop with the reserve 1", "run 499 = 0 | untilStop = 1");
        Script.play("untilStop of a clock that has stopped", "run 500 = 0 | untilStop = 0 | run 1 = 0 | untilStop = 0");
        Script.play("untilStop at the greatest", "set 6 2000 = 500 | untilStop = 500 | wind = 500 | untilStop = 2000");
        Script.play("untilStop at the least", "set 6 1 = 500 | wind = 500 | untilStop = 1 | run 1 = 0 | untilStop = 0");
        Script.play("untilStop behind the tick 5000", TO_4000 + """
            run 999 = 0 | wind = 0 | untilStop = 500 | run 1 = 0 | untilStop = 499
            """);
    }

    private static void gearsFor() {
        Script.play("gearsFor: ticks, 1 to 100000", """
            gearsFor 0 = -1 | gearsFor -1 = -1 | gearsFor 1 = -4 | gearsFor 100000 = -4 | gearsFor 100001 = -1
            """);
        Script.play("as many counts as teeth", "gearsFor 360 = 8008");
        Script.play("in place of all pairs", """
            addGears 120 8 = 1 | addGears 9 77 = 2 | gearsFor 360 = 8008 | count 10 = 2
            """);
        Script.play("the least ticks of the least teeth", """
            set 5 10 = 360 | gearsFor 1 = 80008 | gearsFor 10 = 8008 | gearsFor 150 = 8120 | gearsFor 151 = -4
            """);
        Script.play("the greatest ticks that can be", """
            set 5 1000 = 360 | gearsFor 15000 = 8120 | gearsFor 15001 = -4 | gearsFor 100000 = -4
            """);
        Script.play("teeth set later count at once", """
            gearsFor 720 = 8016 | set 5 720 = 360 | gearsFor 720 = 8008 | undo = 0 | gearsFor 720 = 8016
            """);
    }

    private static void wheelsOfGearsFor() {
        Script.play("the first wheel 8 at the least", """
            gearsFor 720 = 8016 | gearsFor 405 = 8009 | gearsFor 400 = 9010
            """);
        Script.play("the first wheel 120 at the most", """
            set 5 15 = 360 | gearsFor 1 = 120008 | set 5 16 = 15 | gearsFor 1 = -4 | set 5 120 = 16
            gearsFor 119 = 120119
            """);
        Script.play("the first wheel would be 121", """
            set 5 121 = 360 | gearsFor 120 = -4 | gearsFor 8 = -4 | gearsFor 11 = 88008
            """);
        Script.play("the second wheel 8 at the least", """
            set 5 100 = 360 | gearsFor 50 = 16008 | gearsFor 10 = 80008 | gearsFor 8 = 100008 | gearsFor 7 = -4
            """);
        Script.play("the second wheel 120 at the most", """
            set 5 100 = 360 | gearsFor 1500 = 8120 | gearsFor 1501 = -4 | gearsFor 1600 = -4
            """);
        Script.play("the second wheel would be 121", """
            set 5 120 = 360 | gearsFor 121 = -4 | set 5 100 = 120 | gearsFor 121 = -4
            """);
        Script.play("the least first wheel, in lowest terms below 8", """
            set 5 30 = 360 | gearsFor 20 = 12008 | gearsFor 45 = 8012 | gearsFor 50 = 9015
            """);
    }
}
