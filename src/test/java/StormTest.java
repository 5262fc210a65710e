/** Promises 15 to 21: storm, greatestStorm, gapForOne, ifRun, capacityFor, untilStop, gearsFor. */
public final class StormTest {
    /** Marks at the ticks 0, 10, 20, 81, 141 and 202 with the film and the ticks of a tip at 0. */
    private static final String MARKS = """
        set 1 0 = 2 | set 2 0 = 10 | addShower 0 1 100 = 0 | addShower 10 1 100 = 1 | addShower 20 1 100 = 2
        addShower 81 1 100 = 3 | addShower 141 1 100 = 4 | addShower 202 1 100 = 5 | run 300 = 6
        """;

    public static void main(String[] args) {
        storm();
        loss();
        peak();
        greatestStorm();
        gapForOne();
        ifRun();
        capacityFor();
        untilStop();
        gearsFor();
        Script.end();
    }

    private static void storm() {
        Script.play("storm", MARKS + """
            count 3 = 3 | storm 0 0 = 0 | storm 0 1 = 3 | storm 0 2 = 20 | storm 0 3 = 300 | storm 0 4 = 0 | storm 0 5 = 3
            storm 1 0 = 3 | storm 1 1 = 2 | storm 1 2 = 60 | storm 1 3 = 200 | storm 1 5 = 1
            storm 2 0 = 5 | storm 2 1 = 1 | storm 2 2 = 0 | storm 2 3 = 100 | storm 2 4 = 0 | storm 2 5 = 1
            storm 3 0 = -1 | storm -1 0 = -1 | storm 0 6 = -1 | storm 0 -1 = -1
            set 0 33 = 100 | storm 0 3 = 99 | set 7 59 = 60 | count 3 = 4 | set 7 9 = 59 | count 3 = 6
            """);
        Script.play("no storm", "count 3 = 0 | storm 0 0 = -1");
    }

    private static void loss() {
        Script.play("loss", MARKS + """
            set 1 3 = 0 | storm 0 4 = 60 | storm 1 4 = 5 | storm 2 4 = 0 | set 0 33 = 100 | storm 0 4 = 18 | storm 1 4 = 1
            set 7 1000 = 60 | storm 0 4 = 21
            """);
    }

    private static void peak() {
        Script.play("peak within 30 ticks", """
            set 1 0 = 2 | set 2 0 = 10 | addShower 0 1 100 = 0 | addShower 29 2 100 = 1 | addShower 58 1 100 = 2
            run 70 = 4 | mark 1 0 = 29 | mark 2 0 = 30 | mark 3 0 = 58 | count 3 = 1 | storm 0 5 = 3
            """);
        Script.play("29 ticks apart", """
            set 1 0 = 2 | set 2 0 = 10 | addShower 0 1 100 = 0 | addShower 29 1 100 = 1 | run 40 = 2 | storm 0 5 = 2
            """);
        Script.play("30 ticks apart", """
            set 1 0 = 2 | set 2 0 = 10 | addShower 0 1 100 = 0 | addShower 30 1 100 = 1 | run 40 = 2 | storm 0 5 = 1
            """);
    }

    private static void greatestStorm() {
        Script.play("greatestStorm", "greatestStorm = -4");
        Script.play("greatestStorm", MARKS + """
            greatestStorm = 0 | set 7 5 = 60 | greatestStorm = 0 | set 7 60 = 5
            undo = 4 | undo = 3 | addShower 300 1 100 = 0 | addShower 305 2 100 = 1 | run 10 = 3
            set 7 60 = 60 | greatestStorm = 0 | set 1 1 = 0 | greatestStorm = 3 | storm 3 4 = 120
            """);
    }

    private static void gapForOne() {
        Script.play("gapForOne", "gapForOne = -4 | addShower 0 1 110 = 0 | run 1 = 1 | gapForOne = 1");
        Script.play("gapForOne", MARKS + "gapForOne = 61 | set 7 60 = 60 | count 3 = 3 | set 7 61 = 60 | count 3 = 1");
        String apart = """
            set 2 0 = 10 | addShower 0 1 100 = 0 | addShower %d 1 100 = 1 | run 1000 = 1 | run 1000 = 1 | gapForOne = %d
            """;
        Script.play("gapForOne 1000", apart.formatted(1000, 1000));
        Script.play("gapForOne 1001", apart.formatted(1001, -4));
    }

    private static void ifRun() {
        Script.play("ifRun", """
            addShower 0 12 60 = 0 | addGears 20 10 = 1 | set 4 2 = 0 | run 2 = 1
            ifRun 15 0 = 2 | ifRun 15 1 = 200 | ifRun 15 2 = 40 | ifRun 15 3 = 360 | ifRun 15 4 = 5
            ifRun 15 5 = 5 | ifRun 15 6 = 0 | ifRun 15 7 = 34 | ifRun 7 6 = 60 | ifRun 1 3 = 60
            ifRun 15 8 = -1 | ifRun 15 -1 = -1 | ifRun 0 0 = -1 | ifRun 1001 0 = -1
            count 0 = 2 | count 1 = 1 | count 2 = 1 | count 4 = 10 | count 7 = 498 | count 11 = 4 | account 0 = 120
            run 1 = 0 | count 6 = 1 | undo = 4 | undo = 3 | count 0 = 0
            """);
        Script.play("ifRun at the last tick", """
            run 1000 = 0 | run 1000 = 0 | run 1000 = 0 | run 1000 = 0 | run 500 = 0 | ifRun 500 0 = 0
            ifRun 501 0 = -3 | ifRun 501 8 = -1 | ifRun 1001 0 = -1
            capacityFor 500 0 = 20 | capacityFor 501 0 = -3 | capacityFor 501 -1 = -1 | capacityFor 501 100001 = -1
            """);
    }

    private static void capacityFor() {
        Script.play("capacityFor", """
            capacityFor 0 0 = -1 | capacityFor 1001 0 = -1 | capacityFor 1 -1 = -1 | capacityFor 1 100001 = -1
            capacityFor 1000 100000 = 20 | set 2 0 = 10 | addShower 0 3 100 = 0
            capacityFor 1 0 = 100 | capacityFor 1 79 = 21 | capacityFor 1 80 = 20
            capacityFor 2 0 = 200 | capacityFor 2 99 = 101 | capacityFor 2 100 = 100 | capacityFor 2 120 = 80
            capacityFor 3 0 = 300 | capacityFor 3 99 = 201 | capacityFor 3 100 = 200 | capacityFor 1000 0 = 300
            count 20 = 100 | count 5 = 0 | count 11 = 2 | set 1 0 = 2 | capacityFor 3 0 = 100
            undo = 2 | run 2 = 1 | account 2 = 0 | account 3 = 100 | capacityFor 1 99 = -4 | capacityFor 1 100 = 20
            """);
        Script.play("capacityFor, content and film of the present", """
            set 2 50 = 10 | addShower 0 1 140 = 0 | addShower 2 1 20 = 1 | run 1 = 0 | count 5 = 90
            capacityFor 1 0 = 90 | capacityFor 2 0 = 109 | set 4 10 = 0 | capacityFor 1 0 = 80 | capacityFor 2 0 = 99
            set 3 20 = 1 | capacityFor 1 60 = 20 | capacityFor 2 0 = 80 | set 3 0 = 20 | capacityFor 2 0 = 100
            """);
        Script.play("capacityFor, none", """
            set 2 0 = 10 | addShower 0 500 200 = 0 | addShower 0 500 200 = 1 | addShower 0 500 200 = 2
            capacityFor 1 99 = -4 | capacityFor 1 100 = 500 | capacityFor 500 100000 = -4
            """);
    }

    private static void untilStop() {
        Script.play("untilStop", "untilStop = 500 | run 499 = 0 | untilStop = 1 | run 1 = 0 | untilStop = 0 | run 1 = 0 | untilStop = 0");
    }

    private static void gearsFor() {
        Script.play("gearsFor", """
            gearsFor 0 = -1 | gearsFor 100001 = -1 | gearsFor 360 = 8008 | gearsFor 720 = 8016 | gearsFor 100000 = -4
            gearsFor 7 = -4 | gearsFor 24 = 120008 | gearsFor 23 = -4 | gearsFor 5400 = 8120 | gearsFor 5401 = -4
            gearsFor 361 = -4 | gearsFor 357 = 120119 | set 5 1000 = 360 | gearsFor 1500 = 8012
            addGears 20 40 = 1 | gearsFor 1500 = 8012 | set 5 17 = 1000 | gearsFor 18 = 17018 | gearsFor 1 = -4
            gearsFor 2 = 68008
            """);
    }
}
