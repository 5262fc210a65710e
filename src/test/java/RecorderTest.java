/** Promises 7 to 14: set, wind, the gears, count, account, mark. */
public final class RecorderTest {
    private static final int[] LEAST = {20, 0, 0, 0, 0, 10, 1, 1};
    private static final int[] GREATEST = {500, 20, 200, 50, 50, 1000, 2000, 1000};
    private static final int[] FIRST = {100, 2, 10, 1, 0, 360, 500, 60};

    public static void main(String[] args) {
        set();
        wind();
        gears();
        drum();
        count();
        account();
        marks();
        keptMarks();
        Script.end();
    }

    private static void set() {
        for (int what = 0; what < 8; what++) {
            Script.play("set " + what, "set %d %d = -1 | set %d %d = -1 | count 11 = 0".formatted(
                    what, LEAST[what] - 1, what, GREATEST[what] + 1));
            Script.play("set " + what, "set %d %d = %d | set %d %d = %d | count %d = %d".formatted(
                    what, LEAST[what], FIRST[what], what, GREATEST[what], LEAST[what], 20 + what, GREATEST[what]));
        }
        Script.play("set out of range", "set -1 50 = -1 | set 8 50 = -1 | set 2147483647 1 = -1 | set -2147483648 1 = -1");
    }

    private static void wind() {
        Script.play("wind", """
            run 10 = 0 | count 7 = 490 | wind = 490 | count 7 = 500
            set 6 3 = 500 | count 7 = 500 | wind = 500 | count 7 = 3 | count 8 = 10
            run 2 = 0 | count 7 = 1 | count 8 = 12 | untilStop = 1 | run 5 = 0 | count 7 = 0 | count 8 = 13 | untilStop = 0
            wind = 0 | untilStop = 3 | run 5 = 0 | count 8 = 16 | undo = 4 | undo = 3 | count 7 = 0
            """);
    }

    private static void gears() {
        Script.play("gears", """
            addGears 8 120 = 1 | addGears 120 8 = 2 | addGears 7 8 = -1 | addGears 8 7 = -1 | addGears 121 8 = -1
            addGears 8 121 = -1 | addGears 50 60 = 3 | addGears 50 60 = -3 | addGears 7 60 = -1 | count 10 = 3
            gear 0 0 = 8 | gear 0 1 = 120 | gear 1 0 = 120 | gear 1 1 = 8 | gear 2 0 = 50 | gear 2 1 = 60
            gear 3 0 = -1 | gear -1 0 = -1 | gear 0 2 = -1 | gear 0 -1 = -1
            removeGears 3 = -1 | removeGears -1 = -1 | removeGears 0 = 2 | gear 0 0 = 120 | gear 1 1 = 60 | gear 2 0 = -1
            removeGears 1 = 1 | gear 0 1 = 8 | removeGears 0 = 0 | removeGears 0 = -1 | addGears 9 10 = 1 | gear 0 0 = 9
            """);
    }

    private static void drum() {
        Script.play("the place of the drum is rounded down once", """
            addGears 10 15 = 1 | addGears 15 10 = 2 | run 7 = 0 | count 9 = 7 | removeGears 1 = 1 | count 9 = 4
            set 5 10 = 360 | run 10 = 0 | count 9 = 1
            """);
        Script.play("a product beyond the int", """
            set 6 2000 = 500 | wind = 500 | addGears 120 8 = 1 | addGears 120 8 = 2 | addGears 120 119 = 3
            set 5 1000 = 360 | run 1000 = 0 | run 999 = 0 | count 8 = 1999 | count 9 = 554
            """);
    }

    private static void count() {
        Script.play("count out of range", """
            count -1 = -1 | count 14 = -1 | count 19 = -1 | count 28 = -1 | count 2147483647 = -1 | count -2147483648 = -1
            """);
        Script.play("count", """
            addShower 0 3 110 = 0 | addShower 2 5 30 = 1 | write xyz = 3 | addGears 20 10 = 1 | run 2 = 1
            count 0 = 2 | count 1 = 2 | count 2 = 1 | count 3 = 1 | count 4 = 10 | count 5 = 0 | count 6 = 1
            count 7 = 498 | count 8 = 2 | count 9 = 4 | count 10 = 1 | count 11 = 4 | count 12 = 3 | count 13 = 140
            """);
    }

    private static void account() {
        Script.play("account", """
            set 4 5 = 0 | addShower 0 4 65 = 0 | addShower 8 1 50 = 1
            run 12 = 1 | account 0 = 310 | account 1 = 100 | account 2 = 20 | account 3 = 130 | account 4 = 22
            count 4 = 7 | count 5 = 31 | account 5 = -1 | account -1 = -1
            """);
    }

    private static void marks() {
        Script.play("mark", """
            addShower 0 20 50 = 0 | addGears 30 10 = 1 | run 20 = 5
            mark 0 0 = 2 | mark 0 1 = 6 | mark 0 2 = 40 | mark 1 0 = 6 | mark 1 1 = 18 | mark 1 2 = 0
            mark 4 0 = 18 | mark 5 0 = -1 | mark -1 0 = -1 | mark 0 3 = -1 | mark 0 -1 = -1
            set 5 10 = 360 | mark 1 1 = 18
            """);
    }

    private static void keptMarks() {
        Script.play("the latest 60 marks", """
            set 1 0 = 2 | set 2 0 = 10 | addShower 0 60 100 = 0 | addShower 60 3 150 = 1
            run 60 = 60 | count 2 = 60 | mark 0 0 = 0 | mark 59 0 = 59
            run 1 = 1 | count 2 = 60 | mark 0 0 = 1 | mark 59 0 = 60 | mark 59 2 = 50 | mark 58 2 = 0
            run 2 = 2 | mark 0 0 = 3 | mark 0 1 = 3 | mark 57 2 = 50 | mark 56 2 = 0 | mark 60 0 = -1 | undo = 4
            mark 0 0 = 1 | mark 59 1 = 60 | mark 59 2 = 50 | mark 58 2 = 0
            """);
    }
}
