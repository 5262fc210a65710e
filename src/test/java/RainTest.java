/** Promises 1 to 6: a new object, addShower, cancel, shower, run, undo. */
public final class RainTest {
    public static void main(String[] args) {
        newObject();
        addShower();
        cancel();
        shower();
        runShowers();
        runFilmAndBucket();
        runTips();
        runDrying();
        runLoweredCapacities();
        undo();
        undoRestoresAllButTheText();
        historyOfChangesOnly();
        Script.end();
    }

    private static void newObject() {
        Script.play("new object", """
            count 0 = 0 | count 1 = 0 | count 2 = 0 | count 3 = 0 | count 4 = 0 | count 5 = 0 | count 6 = 0
            count 7 = 500 | count 8 = 0 | count 9 = 0 | count 10 = 0 | count 11 = 0 | count 12 = 0 | count 13 = 0
            count 20 = 100 | count 21 = 2 | count 22 = 10 | count 23 = 1 | count 24 = 0 | count 25 = 360
            count 26 = 500 | count 27 = 60
            account 0 = 0 | account 1 = 0 | account 2 = 0 | account 3 = 0 | account 4 = 0
            """);
    }

    private static void addShower() {
        Script.play("addShower in order", """
            addShower 10 5 1 = 0 | addShower 10 5 2 = 1 | addShower 0 500 200 = 0 | addShower 10 5 3 = 3
            addShower 5000 1 1 = 4 | addShower 9 1 1 = 1 | count 1 = 6
            shower 0 2 = 200 | shower 1 0 = 9 | shower 2 2 = 1 | shower 3 2 = 2 | shower 4 2 = 3 | shower 5 0 = 5000
            """);
        Script.play("addShower out of range", """
            addShower -1 1 1 = -1 | addShower 5001 1 1 = -1 | addShower 0 0 1 = -1 | addShower 0 501 1 = -1
            addShower 0 1 0 = -1 | addShower 0 1 201 = -1 | addShower -2147483648 2147483647 2147483647 = -1
            count 1 = 0 | count 11 = 0
            run 7 = 0 | addShower 6 1 1 = -1 | addShower 7 1 1 = 0
            """);
        Script.play("addShower to the limit", """
            addShower 1 1 1 = 0 | addShower 2 1 1 = 1 | addShower 3 1 1 = 2 | addShower 4 1 1 = 3
            addShower 5 1 1 = 4 | addShower 6 1 1 = 5 | addShower 7 1 1 = 6 | addShower 8 1 1 = 7
            addShower 9 1 1 = 8 | addShower 10 1 1 = 9 | addShower 11 1 1 = 10 | addShower 0 1 1 = 0
            addShower 0 1 1 = -3 | addShower 0 1 201 = -1 | count 1 = 12 | count 11 = 5
            run 1 = 0 | addShower 1 1 1 = 1 | addShower 1 1 1 = -3
            cancel 0 = 11 | undo = 4 | addShower 1 1 1 = -3 | undo = 3 | cancel 11 = -1 | count 1 = 11
            """);
    }

    private static void cancel() {
        Script.play("cancel", """
            addShower 0 10 1 = 0 | addShower 5 10 2 = 1 | addShower 6 10 3 = 2
            cancel 3 = -1 | cancel -1 = -1 | run 5 = 0
            cancel 0 = -2 | cancel 3 = -1 | count 11 = 4
            cancel 1 = 2 | count 11 = 5 | shower 1 2 = 3 | cancel 1 = 1 | cancel 0 = -2 | cancel 1 = -1
            """);
        Script.play("cancel at the present tick", "addShower 0 10 1 = 0 | cancel 0 = 0 | count 1 = 0 | cancel 0 = -1");
    }

    private static void shower() {
        Script.play("shower", """
            addShower 3 4 5 = 0
            shower 0 0 = 3 | shower 0 1 = 4 | shower 0 2 = 5 | shower 0 3 = 4
            shower 0 4 = -1 | shower 0 -1 = -1 | shower 1 0 = -1 | shower -1 0 = -1
            run 3 = 0 | shower 0 3 = 4 | run 1 = 0 | shower 0 3 = 3 | shower 0 0 = 3 | shower 0 1 = 4
            run 2 = 0 | shower 0 3 = 1 | run 1 = 0 | shower 0 3 = -1 | count 1 = 0
            """);
    }

    private static void runShowers() {
        Script.play("run", """
            run 0 = -1 | run 1001 = -1 | run -5 = -1 | count 11 = 0 | run 1000 = 0 | count 0 = 1000
            run 1000 = 0 | run 1000 = 0 | run 1000 = 0 | run 999 = 0
            run 2 = -3 | run 1001 = -1 | run 1 = 0 | count 0 = 5000 | run 1 = -3
            addShower 5000 500 7 = 0 | count 13 = 7 | shower 0 3 = 500 | addShower 4999 1 1 = -1 | cancel 0 = 0
            """);
        Script.play("the rain of a tick", """
            addShower 2 3 10 = 0 | addShower 4 2 100 = 1
            count 13 = 0 | run 2 = 0 | count 13 = 10 | run 2 = 0 | count 13 = 110 | count 1 = 2
            run 1 = 1 | count 13 = 100 | count 1 = 1 | run 1 = 0 | count 13 = 0 | count 1 = 0
            account 0 = 230
            """);
    }

    private static void runFilmAndBucket() {
        Script.play("film before bucket", """
            addShower 0 3 7 = 0 | run 1 = 0 | count 4 = 7 | count 5 = 0
            run 1 = 0 | count 4 = 10 | count 5 = 4 | run 1 = 0 | count 4 = 10 | count 5 = 11
            run 1 = 0 | count 4 = 9 | count 5 = 11 | account 4 = 1 | run 20 = 0 | count 4 = 0 | account 4 = 10
            """);
    }

    private static void runTips() {
        Script.play("a tip of 2 ticks", """
            set 2 0 = 10 | addShower 0 10 60 = 0
            run 1 = 0 | count 5 = 60 | run 1 = 1 | count 5 = 0 | count 6 = 2 | account 1 = 100 | account 2 = 20
            run 1 = 0 | count 6 = 1 | account 3 = 60 | run 1 = 0 | count 6 = 0 | account 3 = 120 | count 5 = 0
            run 1 = 0 | count 5 = 60 | run 1 = 1 | mark 0 0 = 1 | mark 1 0 = 5 | account 0 = 360
            """);
        Script.play("a tip of 0 ticks, content just at the capacity", """
            set 2 0 = 10 | set 1 0 = 2 | addShower 0 5 100 = 0 | run 3 = 3 | count 6 = 0 | account 2 = 0
            account 1 = 300 | set 0 101 = 100 | run 1 = 0 | count 5 = 100 | run 1 = 1 | mark 3 2 = 99
            """);
        Script.play("the ticks of a tip as they are then", """
            set 2 0 = 10 | addShower 0 9 100 = 0 | run 1 = 1 | set 1 20 = 2 | count 6 = 2
            run 2 = 0 | count 6 = 0 | run 1 = 1 | count 6 = 20 | set 1 0 = 20 | count 6 = 20 | run 1 = 0 | count 6 = 19
            """);
    }

    private static void runDrying() {
        Script.play("the bucket dries, but not under a tip", """
            set 4 30 = 0 | addShower 0 1 80 = 0 | run 1 = 0 | count 5 = 70
            run 1 = 0 | count 5 = 40 | count 4 = 9 | account 4 = 31 | run 2 = 0 | count 5 = 0 | account 4 = 73
            """);
        Script.play("the film dries in a tip", """
            set 3 3 = 1 | addShower 0 1 110 = 0 | run 1 = 1 | count 6 = 2 | run 1 = 0 | count 4 = 7 | account 4 = 3
            """);
        Script.play("nothing dries in the rain", """
            set 3 50 = 1 | set 4 50 = 0 | addShower 0 3 20 = 0 | run 3 = 0 | count 4 = 10 | count 5 = 50 | account 4 = 0
            """);
        Script.play("drying comes before tipping", """
            set 2 0 = 10 | set 4 50 = 0 | addShower 0 1 99 = 0 | run 1 = 0 | set 0 50 = 100 | run 1 = 0 | count 5 = 49
            """);
    }

    private static void runLoweredCapacities() {
        Script.play("a film over its capacity", """
            set 2 100 = 10 | addShower 0 2 50 = 0 | addShower 3 1 50 = 1 | run 2 = 0 | count 4 = 100
            set 2 20 = 100 | run 1 = 0 | count 4 = 99 | run 1 = 0 | count 4 = 99 | count 5 = 50
            """);
        Script.play("a bucket over its capacity", """
            set 2 0 = 10 | addShower 0 1 99 = 0 | run 1 = 0 | set 0 20 = 100 | run 1 = 1 | mark 0 2 = 79 | account 1 = 20
            """);
    }

    private static void undo() {
        Script.play("undo", """
            undo = -2 | addShower 1 1 1 = 0 | undo = 0 | count 1 = 0 | undo = -2
            addShower 1 1 1 = 0 | addShower 2 1 1 = 1 | addShower 3 1 1 = 2 | addShower 4 1 1 = 3
            addShower 5 1 1 = 4 | count 11 = 5 | addShower 6 1 1 = 5 | addShower 7 1 1 = 6 | count 11 = 5
            undo = 4 | count 1 = 6 | undo = 3 | undo = 2 | addShower 9 1 1 = 4 | count 11 = 3
            undo = 2 | count 1 = 4 | undo = 1 | undo = 0 | count 1 = 2 | undo = -2 | count 1 = 2 | shower 1 0 = 2
            """);
    }

    private static void undoRestoresAllButTheText() {
        Script.play("undo restores all but the text", """
            addShower 0 20 60 = 0 | addGears 20 40 = 1 | run 10 = 3 | write abc = 3
            run 10 = 2 | set 0 50 = 100 | wind = 480 | addGears 9 9 = 2
            write d = 4 | undo = 4 | undo = 3 | undo = 2 | undo = 1
            count 0 = 10 | count 1 = 1 | count 2 = 3 | count 4 = 10 | count 5 = 0 | count 6 = 2 | count 7 = 490
            count 8 = 10 | count 9 = 5 | count 10 = 1 | count 12 = 4 | count 20 = 100
            account 0 = 600 | account 1 = 300 | account 2 = 50 | account 3 = 240 | account 4 = 0
            mark 0 0 = 1 | mark 1 0 = 5 | mark 1 1 = 2 | mark 1 2 = 20 | mark 2 0 = 9 | mark 3 0 = -1
            run 7 = 1 | count 5 = 60
            """);
    }

    private static void historyOfChangesOnly() {
        Script.play("what is a change", """
            addGears 10 10 = 1 | count 11 = 1 | removeGears 0 = 0 | count 11 = 2 | wind = 500 | count 11 = 3
            set 0 100 = 100 | count 11 = 4 | lay = 0 | count 11 = 5 | undo = 4
            write 0+1*2; = 6 | fault 0 = -4 | clearText = 6 | shower 0 0 = -1 | ifRun 9 0 = 0 | capacityFor 9 0 = 20
            gearsFor 360 = 8008 | greatestStorm = -4 | gapForOne = -4 | untilStop = 500 | count 11 = 4
            removeGears 0 = -1 | run 0 = -1 | cancel 0 = -1 | addGears 7 8 = -1 | set 8 0 = -1 | count 11 = 4
            write ? = 1 | lay = -2 | count 11 = 4
            """);
    }
}
