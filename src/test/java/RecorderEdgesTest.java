/**
 * Promises 7 to 14 and the film, the bucket, the clock and the accounts at their edges: a test for each sentence of
 * the document that names a boundary case.
 */
public final class RecorderEdgesTest {
    /** Neither a film nor a tip that takes time: each tick with at least 100 units tips. */
    private static final String BARE = "set 1 0 = 2 | set 2 0 = 10 |";
    /** A tip of 2 ticks, but no film. */
    private static final String NO_FILM = "set 2 0 = 10 |";

    public static void main(String[] args) {
        settings();
        filmTakes();
        filmOverItsCapacity();
        lost();
        filmDries();
        bucketDries();
        rainOfZero();
        tips();
        tipsBehindDrying();
        ticksOfTip();
        reserve();
        wind();
        gears();
        removeGears();
        drum();
        teethOfDrum();
        count();
        account();
        sumOfAccounts();
        mark();
        placeOfMark();
        keptMarks();
        Script.end();
    }

    private static void setting(int what, int least, int greatest, int first) {
        Script.play("setting %d: first value".formatted(what), "count %d = %d".formatted(20 + what, first));
        Script.play("setting %d: the least".formatted(what), "set %d %d = -1 | count %d = %d | set %d %d = %d | count %d = %d".formatted(
                what, least - 1, 20 + what, first, what, least, first, 20 + what, least));
        Script.play("setting %d: the greatest".formatted(what), "set %d %d = -1 | count %d = %d | set %d %d = %d | count %d = %d".formatted(
                what, greatest + 1, 20 + what, first, what, greatest, first, 20 + what, greatest));
        Script.play("setting %d: the previous value".formatted(what), "set %d %d = %d | set %d %d = %d | set %d %d = %d | undo = 2".formatted(
                what, least, first, what, greatest, least, what, first, greatest));
        for (int other = 0; other < 8; other++) {
            if (other != what) {
                Script.play("setting %d alone".formatted(what), "count %d = %d | set %d %d = %d | count %d = %d".formatted(
                        20 + other, firstOf(other), what, least, first, 20 + other, firstOf(other)));
            }
        }
    }

    private static int firstOf(int what) {
        return new int[] {100, 2, 10, 1, 0, 360, 500, 60}[what];
    }

    private static void settings() {
        setting(0, 20, 500, 100);
        setting(1, 0, 20, 2);
        setting(2, 0, 200, 10);
        setting(3, 0, 50, 1);
        setting(4, 0, 50, 0);
        setting(5, 10, 1000, 360);
        setting(6, 1, 2000, 500);
        setting(7, 1, 1000, 60);
        Script.play("what: 0 to 7", "set -1 50 = -1 | set 8 50 = -1 | set 0 50 = 100 | set 7 50 = 60 | count 11 = 2");
    }

    private static void filmTakes() {
        Script.play("the film takes less than it lacks", "addShower 0 1 9 = 0 | run 1 = 0 | count 4 = 9 | count 5 = 0");
        Script.play("the film takes just what it lacks", """
            addShower 0 1 10 = 0 | run 1 = 0 | count 4 = 10 | count 5 = 0
            """);
        Script.play("the film takes no more than it lacks", """
            addShower 0 1 11 = 0 | run 1 = 0 | count 4 = 10 | count 5 = 1
            """);
        Script.play("the film lacks less than it holds", """
            addShower 0 2 6 = 0 | run 1 = 0 | count 4 = 6 | run 1 = 0 | count 4 = 10 | count 5 = 2
            """);
        Script.play("the film lacks nothing", """
            addShower 0 2 10 = 0 | run 1 = 0 | count 5 = 0 | run 1 = 0 | count 4 = 10 | count 5 = 10
            """);
        Script.play("a film of 0", "set 2 0 = 10 | addShower 0 1 1 = 0 | run 1 = 0 | count 4 = 0 | count 5 = 1");
        Script.play("a film of 200", """
            set 2 200 = 10 | addShower 0 2 200 = 0 | run 1 = 0 | count 4 = 200 | count 5 = 0 | run 1 = 1
            mark 0 2 = 100
            """);
    }

    private static void filmOverItsCapacity() {
        Script.play("nothing if it has more, as its capacity was set lower", """
            addShower 0 2 10 = 0 | run 1 = 0 | set 2 9 = 10 | count 4 = 10 | run 1 = 0 | count 4 = 10 | count 5 = 10
            """);
        Script.play("a film with just its lowered capacity", """
            addShower 0 1 5 = 0 | addShower 1 1 1 = 1 | run 1 = 0 | set 2 5 = 10 | run 1 = 0 | count 4 = 5 | count 5 = 1
            """);
        Script.play("a film below its lowered capacity by one", """
            addShower 0 1 5 = 0 | addShower 1 1 2 = 1 | run 1 = 0 | set 2 6 = 10 | run 1 = 0 | count 4 = 6 | count 5 = 1
            """);
        Script.play("a film over its capacity dries no faster", """
            addShower 0 1 10 = 0 | run 1 = 0 | set 2 0 = 10 | run 1 = 0 | count 4 = 9 | account 4 = 1
            """);
    }

    private static void lost() {
        Script.play("what is left is lost if a tip is under way, in each of its ticks", NO_FILM + """
            addShower 0 4 100 = 0 | run 1 = 1 | account 3 = 0 | count 6 = 2 | run 1 = 0 | account 3 = 100 | count 6 = 1 | count 5 = 0
            run 1 = 0 | account 3 = 200 | count 6 = 0 | count 5 = 0 | run 1 = 1 | account 3 = 200 | account 1 = 200
            """);
        Script.play("in the last tick of a tip nothing tips", NO_FILM + """
            set 1 1 = 2 | addShower 0 3 100 = 0 | run 1 = 1 | count 6 = 1 | run 1 = 0 | count 6 = 0 | account 3 = 100 | count 2 = 1
            run 1 = 1
            """);
        Script.play("the film takes its part in a tip, too", """
            set 3 3 = 1 | addShower 0 1 110 = 0 | addShower 2 1 5 = 1 | run 2 = 1 | count 4 = 7 | count 6 = 1
            run 1 = 0 | count 4 = 10 | account 3 = 2 | count 6 = 0
            """);
        Script.play("nothing is left to be lost", """
            set 3 5 = 1 | addShower 0 1 110 = 0 | addShower 2 1 5 = 1 | run 3 = 1 | count 4 = 10 | account 3 = 0
            """);
    }

    private static void filmDries() {
        String film = "set 2 5 = 10 | addShower 0 1 5 = 0 | run 1 = 0 |";
        Script.play("the film has more than its drying", film + """
            set 3 4 = 1 | run 1 = 0 | count 4 = 1 | account 4 = 4
            """);
        Script.play("the film has just its drying", film + "set 3 5 = 1 | run 1 = 0 | count 4 = 0 | account 4 = 5");
        Script.play("the film loses at most what is there", film + """
            set 3 6 = 1 | run 1 = 0 | count 4 = 0 | account 4 = 5 | run 1 = 0 | account 4 = 5
            """);
        Script.play("the film with a drying of 0", film + "set 3 0 = 1 | run 100 = 0 | count 4 = 5 | account 4 = 0");
        Script.play("the film with a drying of 50", """
            set 2 101 = 10 | set 3 50 = 1 | addShower 0 1 101 = 0 | run 3 = 0 | count 4 = 1 | run 1 = 0 | count 4 = 0
            """);
        Script.play("a film of nothing dries nothing", "run 9 = 0 | count 4 = 0 | account 4 = 0");
        Script.play("the film dries in a tip", """
            addShower 0 1 110 = 0 | run 1 = 1 | run 1 = 0 | count 6 = 1 | count 4 = 9 | account 4 = 1
            """);
    }

    private static void bucketDries() {
        String bucket = "set 2 0 = 10 | addShower 0 1 5 = 0 | run 1 = 0 |";
        Script.play("the bucket has more than its drying", bucket + """
            set 4 4 = 0 | run 1 = 0 | count 5 = 1 | account 4 = 4
            """);
        Script.play("the bucket has just its drying", bucket + "set 4 5 = 0 | run 1 = 0 | count 5 = 0 | account 4 = 5");
        Script.play("the bucket loses at most what is there", bucket + """
            set 4 6 = 0 | run 1 = 0 | count 5 = 0 | account 4 = 5 | run 1 = 0 | account 4 = 5
            """);
        Script.play("the bucket with a drying of 0", bucket + "run 100 = 0 | count 5 = 5 | account 4 = 0");
        Script.play("the bucket with a drying of 50", """
            set 2 0 = 10 | set 4 50 = 0 | addShower 0 1 51 = 0 | run 2 = 0 | count 5 = 1 | account 4 = 50
            """);
        Script.play("the film and the bucket dry in the same tick", """
            set 3 3 = 1 | set 4 7 = 0 | addShower 0 1 20 = 0 | run 2 = 0 | count 4 = 7 | count 5 = 3 | account 4 = 10
            """);
        Script.play("a film that dries to nothing takes nothing from the bucket", """
            set 3 50 = 1 | addShower 0 1 20 = 0 | run 2 = 0 | count 4 = 0 | count 5 = 10 | account 4 = 10
            """);
    }

    private static void rainOfZero() {
        Script.play("with a rain of 1 the film does not dry", """
            set 3 50 = 1 | addShower 0 2 1 = 0 | run 2 = 0 | count 4 = 2 | account 4 = 0
            """);
        Script.play("with a rain of 1 the bucket does not dry", """
            set 2 0 = 10 | set 4 50 = 0 | addShower 0 2 1 = 0 | run 2 = 0 | count 5 = 2 | account 4 = 0
            """);
        Script.play("the bucket does not dry in a rain that the film takes wholly", """
            set 4 5 = 0 | addShower 0 1 30 = 0 | addShower 2 1 1 = 1 | run 2 = 0 | count 4 = 9 | count 5 = 15
            run 1 = 0 | count 4 = 10 | count 5 = 15 | account 4 = 6
            """);
        Script.play("the first tick behind a rain dries", """
            addShower 0 1 5 = 0 | run 1 = 0 | account 4 = 0 | run 1 = 0 | account 4 = 1
            """);
    }

    private static void tips() {
        Script.play("the content is below the capacity by one", NO_FILM + """
            addShower 0 1 99 = 0 | run 1 = 0 | count 5 = 99 | count 2 = 0 | count 6 = 0
            """);
        Script.play("the content is just the capacity", NO_FILM + """
            addShower 0 1 100 = 0 | run 1 = 1 | count 5 = 0 | account 1 = 100 | account 2 = 0 | mark 0 2 = 0
            """);
        Script.play("the content is above the capacity by one", NO_FILM + """
            addShower 0 1 101 = 0 | run 1 = 1 | count 5 = 0 | account 1 = 100 | account 2 = 1 | mark 0 2 = 1
            """);
        Script.play("the least capacity", NO_FILM + """
            set 0 20 = 100 | addShower 0 1 19 = 0 | addShower 1 1 1 = 1 | run 1 = 0 | run 1 = 1 | account 1 = 20
            account 2 = 0
            """);
        Script.play("the greatest capacity", NO_FILM + """
            set 0 500 = 100 | addShower 0 1 200 = 0 | addShower 0 1 200 = 1 | addShower 0 1 99 = 2 | addShower 1 1 2 = 3
            run 1 = 0 | count 5 = 499 | run 1 = 1 | account 1 = 500 | account 2 = 1
            """);
        Script.play("it tips once in a tick, however much there is", BARE + """
            set 0 20 = 100 | addShower 0 1 200 = 0 | addShower 0 1 200 = 1 | run 1 = 1 | count 5 = 0 | account 1 = 20
            account 2 = 380 | count 2 = 1 | mark 0 2 = 380
            """);
        Script.play("in the tick that fills it", NO_FILM + """
            addShower 0 9 50 = 0 | run 1 = 0 | run 1 = 1 | mark 0 0 = 1
            """);
        Script.play("a capacity set just to the content", NO_FILM + """
            addShower 0 1 99 = 0 | run 1 = 0 | set 0 99 = 100 | count 5 = 99 | run 1 = 1 | mark 0 0 = 1 | mark 0 2 = 0
            """);
        Script.play("a capacity set above the content by one", NO_FILM + """
            addShower 0 1 98 = 0 | run 1 = 0 | set 0 99 = 100 | run 9 = 0 | count 5 = 98
            """);
        Script.play("a capacity set below the content", NO_FILM + """
            addShower 0 1 99 = 0 | run 1 = 0 | set 0 20 = 100 | count 5 = 99 | count 2 = 0 | run 1 = 1 | account 1 = 20
            account 2 = 79 | count 5 = 0
            """);
    }

    private static void tipsBehindDrying() {
        Script.play("what dries first is not there to tip", NO_FILM + """
            addShower 0 1 99 = 0 | run 1 = 0 | set 0 90 = 100 | set 4 10 = 0 | run 1 = 0 | count 5 = 89 | account 4 = 10
            """);
        Script.play("dried just to the capacity", NO_FILM + """
            addShower 0 1 99 = 0 | run 1 = 0 | set 0 90 = 100 | set 4 9 = 0 | run 1 = 1 | account 4 = 9 | mark 0 2 = 0
            """);
    }

    private static void ticksOfTip() {
        Script.play("with 0 ticks none is under way", BARE + """
            addShower 0 2 100 = 0 | run 1 = 1 | count 6 = 0 | run 1 = 1 | account 3 = 0
            """);
        Script.play("a tip of 1 tick", NO_FILM + """
            set 1 1 = 2 | addShower 0 4 100 = 0 | run 1 = 1 | count 6 = 1 | run 1 = 0 | count 6 = 0 | run 1 = 1
            account 3 = 100
            """);
        Script.play("a tip of 20 ticks", NO_FILM + """
            set 1 20 = 2 | addShower 0 22 100 = 0 | run 1 = 1 | count 6 = 20 | run 19 = 0 | count 6 = 1 | run 1 = 0 | count 6 = 0
            account 3 = 2000 | run 1 = 1 | mark 1 0 = 21
            """);
        Script.play("the ticks of a tip as they are then, made more", NO_FILM + """
            addShower 0 4 100 = 0 | run 1 = 1 | set 1 20 = 2 | count 6 = 2 | run 2 = 0 | count 6 = 0 | run 1 = 1
            count 6 = 20
            """);
        Script.play("the ticks of a tip as they are then, made 0", NO_FILM + """
            addShower 0 9 100 = 0 | run 1 = 1 | set 1 0 = 2 | count 6 = 2 | run 2 = 0 | account 3 = 200 | run 1 = 1
            count 6 = 0 | run 1 = 1
            """);
        Script.play("it takes 1 tick less without rain, too", NO_FILM + """
            addShower 0 1 100 = 0 | run 1 = 1 | run 1 = 0 | count 6 = 1 | run 1 = 0 | count 6 = 0 | run 1 = 0
            count 6 = 0
            """);
    }

    private static void reserve() {
        Script.play("if the reserve is above 0, it decreases by 1", """
            run 499 = 0 | count 7 = 1 | count 8 = 499 | run 1 = 0 | count 7 = 0 | count 8 = 500
            """);
        Script.play("with the reserve 0 the clock counts no more", """
            run 500 = 0 | run 1 = 0 | count 7 = 0 | count 8 = 500 | run 1000 = 0 | count 7 = 0 | count 8 = 500
            """);
        Script.play("the clock stops in the midst of a run", "run 501 = 0 | count 7 = 0 | count 8 = 500");
        Script.play("setting it alone does not wind", """
            set 6 1 = 500 | count 7 = 500 | set 6 2000 = 1 | count 7 = 500 | run 1 = 0 | count 7 = 499
            """);
        Script.play("the least reserve", """
            set 6 1 = 500 | wind = 500 | count 7 = 1 | run 1 = 0 | count 7 = 0 | count 8 = 1 | run 1 = 0 | count 8 = 1
            """);
        Script.play("the greatest reserve", """
            set 6 2000 = 500 | wind = 500 | run 1000 = 0 | run 999 = 0 | count 7 = 1 | count 8 = 1999 | run 2 = 0
            count 7 = 0 | count 8 = 2000
            """);
    }

    private static void wind() {
        Script.play("wind with the whole reserve", "wind = 500 | count 7 = 500 | count 8 = 0");
        Script.play("wind with all but one of the reserve", "run 1 = 0 | wind = 499 | count 7 = 500 | count 8 = 1");
        Script.play("wind with the reserve 1", "run 499 = 0 | wind = 1 | count 7 = 500");
        Script.play("wind a stopped clock", """
            run 600 = 0 | wind = 0 | count 7 = 500 | count 8 = 500 | run 1 = 0 | count 8 = 501
            """);
        Script.play("wind to less than the reserve", """
            set 6 10 = 500 | wind = 500 | count 7 = 10 | wind = 10 | count 7 = 10
            """);
    }

    private static void gears() {
        Script.play("initially no gears", "count 10 = 0 | gear 0 0 = -1 | gear 0 1 = -1");
        Script.play("first: 8 to 120", """
            addGears 7 60 = -1 | addGears 121 60 = -1 | count 10 = 0 | addGears 8 60 = 1 | addGears 120 60 = 2
            gear 0 0 = 8 | gear 1 0 = 120
            """);
        Script.play("second: 8 to 120", """
            addGears 60 7 = -1 | addGears 60 121 = -1 | count 10 = 0 | addGears 60 8 = 1 | addGears 60 120 = 2
            gear 0 1 = 8 | gear 1 1 = 120
            """);
        Script.play("at most 3 pairs: the third", """
            addGears 8 9 = 1 | addGears 10 11 = 2 | addGears 12 13 = 3 | gear 2 0 = 12 | gear 2 1 = 13 | gear 3 0 = -1
            """);
        Script.play("LIMIT_REACHED if there are 3", """
            addGears 8 9 = 1 | addGears 10 11 = 2 | addGears 12 13 = 3 | addGears 14 15 = -3 | count 10 = 3 | gear 2 0 = 12 | count 11 = 3
            """);
        Script.play("addGears: INVALID_ARGUMENT rather than LIMIT_REACHED", """
            addGears 8 9 = 1 | addGears 10 11 = 2 | addGears 12 13 = 3 | addGears 7 15 = -1 | addGears 15 7 = -1
            addGears 121 15 = -1 | addGears 15 121 = -1
            """);
        Script.play("a removed pair leaves room for one", """
            addGears 8 9 = 1 | addGears 10 11 = 2 | addGears 12 13 = 3 | removeGears 0 = 2 | addGears 14 15 = 3 | addGears 14 15 = -3
            gear 0 0 = 10 | gear 2 0 = 14
            """);
        Script.play("gear: no pair with this number", """
            addGears 8 9 = 1 | gear -1 0 = -1 | gear 0 0 = 8 | gear 1 0 = -1
            """);
        Script.play("gear: 0 for the first wheel, 1 for the second one", """
            addGears 8 9 = 1 | gear 0 -1 = -1 | gear 0 0 = 8 | gear 0 1 = 9 | gear 0 2 = -1
            """);
    }

    private static void removeGears() {
        String three = "addGears 8 9 = 1 | addGears 10 11 = 2 | addGears 12 13 = 3 |";
        Script.play("removeGears: there is none", "removeGears 0 = -1 | removeGears -1 = -1");
        Script.play("removeGears: no pair with this number", three + """
            removeGears 3 = -1 | removeGears -1 = -1 | count 10 = 3
            """);
        Script.play("the first pair removed", three + """
            removeGears 0 = 2 | gear 0 0 = 10 | gear 1 1 = 13 | gear 2 0 = -1
            """);
        Script.play("the second pair removed", three + """
            removeGears 1 = 2 | gear 0 1 = 9 | gear 1 0 = 12 | gear 2 0 = -1
            """);
        Script.play("the third pair removed", three + """
            removeGears 2 = 2 | gear 0 0 = 8 | gear 1 0 = 10 | gear 2 0 = -1 | removeGears 2 = -1
            """);
        Script.play("the last pair removed", """
            addGears 8 9 = 1 | removeGears 0 = 0 | count 10 = 0 | gear 0 0 = -1 | run 7 = 0 | count 9 = 7
            """);
    }

    private static void drum() {
        Script.play("without gears", "run 1 = 0 | count 9 = 1 | run 99 = 0 | count 9 = 100");
        Script.play("modulo its teeth", """
            run 359 = 0 | count 9 = 359 | run 1 = 0 | count 9 = 0 | run 1 = 0 | count 9 = 1
            """);
        Script.play("divisions are rounded down", """
            addGears 8 120 = 1 | run 14 = 0 | count 9 = 0 | run 1 = 0 | count 9 = 1 | run 14 = 0 | count 9 = 1
            run 1 = 0 | count 9 = 2
            """);
        Script.play("first teeth of all pairs multiplied", """
            addGears 120 8 = 1 | addGears 120 8 = 2 | addGears 120 8 = 3 | run 1 = 0 | count 9 = 135
            """);
        Script.play("second teeth of all pairs multiplied", """
            addGears 8 120 = 1 | addGears 8 120 = 2 | run 224 = 0 | count 9 = 0 | run 1 = 0 | count 9 = 1
            """);
        Script.play("divided once for all pairs", """
            addGears 8 120 = 1 | addGears 120 8 = 2 | run 1 = 0 | count 9 = 1 | run 6 = 0 | count 9 = 7
            """);
        Script.play("the drum stands while the clock does", """
            run 450 = 0 | run 50 = 0 | count 9 = 140 | run 50 = 0 | count 9 = 140 | wind = 0 | run 1 = 0 | count 9 = 141
            """);
        Script.play("count * first beyond the int", """
            set 6 2000 = 500 | wind = 500 | addGears 120 9 = 1 | addGears 120 9 = 2 | addGears 120 9 = 3 | run 1000 = 0 | run 1000 = 0
            count 9 = 260
            """);
    }

    private static void teethOfDrum() {
        Script.play("the least teeth", "set 5 10 = 360 | run 9 = 0 | count 9 = 9 | run 1 = 0 | count 9 = 0");
        Script.play("the greatest teeth", """
            set 5 1000 = 360 | set 6 2000 = 500 | wind = 500 | run 999 = 0 | count 9 = 999 | run 1 = 0 | count 9 = 0
            """);
        Script.play("other teeth, another place at once", """
            run 370 = 0 | count 9 = 10 | set 5 371 = 360 | count 9 = 370 | set 5 370 = 371 | count 9 = 0
            """);
    }

    private static void count() {
        Script.play("count: the least", "count -1 = -1 | count 0 = 0");
        Script.play("count: from 13 to 20", """
            addShower 0 1 5 = 0 | count 13 = 5 | count 14 = -1 | count 15 = -1 | count 16 = -1 | count 17 = -1
            count 18 = -1 | count 19 = -1 | count 20 = 100
            """);
        Script.play("count: the greatest", "count 27 = 60 | count 28 = -1");
        Script.play("the rain of the tick that goes by next", """
            addShower 1 1 5 = 0 | count 13 = 0 | run 1 = 0 | count 13 = 5 | account 0 = 0 | run 1 = 0 | count 13 = 0
            account 0 = 5
            """);
    }

    private static void account() {
        Script.play("account: 0 to 4", "account -1 = -1 | account 0 = 0 | account 4 = 0 | account 5 = -1");
        Script.play("each account by itself", """
            addShower 0 1 150 = 0 | addShower 1 1 30 = 1 | run 4 = 1
            account 0 = 180 | account 1 = 100 | account 2 = 40 | account 3 = 30 | account 4 = 2 | count 4 = 8
            """);
    }

    /** The rain that fell is the sum of the others, the film and the content of the bucket: behind each tick. */
    private static void sumOfAccounts() {
        RainRecorder recorder = Script.play("a mixed rain", """
            set 0 50 = 100 | set 4 7 = 0 | set 3 4 = 1 | addShower 1 20 13 = 0 | addShower 6 3 120 = 1 | addShower 25 9 30 = 2
            addShower 30 1 200 = 3 | addShower 50 1 7 = 4
            """);
        for (int tick = 0; tick < 55; tick++) {
            recorder.run(1);
            int sum = recorder.account(1) + recorder.account(2) + recorder.account(3) + recorder.account(4);
            Script.due("the sum behind the tick " + tick, sum + recorder.count(4) + recorder.count(5), recorder.account(0));
        }
        Script.due("all the rain", recorder.account(0), 20 * 13 + 3 * 120 + 9 * 30 + 200 + 7);
    }

    private static void mark() {
        Script.play("no mark yet", "mark 0 0 = -1 | mark -1 0 = -1 | count 2 = 0");
        Script.play("mark: no mark with this number", """
            addShower 0 1 115 = 0 | run 1 = 1 | mark -1 0 = -1 | mark 0 0 = 0 | mark 1 0 = -1
            """);
        Script.play("mark: what, 0 to 2", """
            addShower 0 1 115 = 0 | run 1 = 1 | mark 0 -1 = -1 | mark 0 0 = 0 | mark 0 2 = 5 | mark 0 3 = -1
            """);
        Script.play("the oldest one first", BARE + """
            addShower 3 1 101 = 0 | addShower 5 1 102 = 1 | run 6 = 2 | mark 0 0 = 3 | mark 0 2 = 1 | mark 1 0 = 5
            mark 1 2 = 2
            """);
        Script.play("a mark in the last tick", BARE + """
            addShower 4999 9 100 = 0 | run 1000 = 0 | run 1000 = 0 | run 1000 = 0 | run 1000 = 0 | run 1000 = 1 | mark 0 0 = 4999
            """);
    }

    private static void placeOfMark() {
        Script.play("the place before the clock counts: the first tick", """
            addShower 0 1 110 = 0 | run 1 = 1 | mark 0 1 = 0 | count 9 = 1
            """);
        Script.play("the place before the clock counts: behind a turn", """
            addShower 360 1 110 = 0 | run 361 = 1 | mark 0 0 = 360 | mark 0 1 = 0 | count 9 = 1
            """);
        Script.play("the place before the clock counts: the end of a turn", """
            addShower 359 1 110 = 0 | run 360 = 1 | mark 0 1 = 359 | count 9 = 0
            """);
        Script.play("the place with the last of the reserve", BARE + """
            set 6 2 = 500 | wind = 500 | addShower 1 3 100 = 0 | run 4 = 3 | mark 0 1 = 1 | mark 1 1 = 2 | mark 2 1 = 2
            """);
        Script.play("a place stays as it was marked", """
            addShower 50 1 110 = 0 | run 51 = 1 | set 5 10 = 360 | addGears 8 9 = 1 | mark 0 1 = 50
            """);
    }

    private static void keptMarks() {
        Script.play("the latest 60 marks are kept: the 59th", BARE + """
            addShower 0 59 100 = 0 | run 59 = 59 | count 2 = 59 | mark 0 0 = 0 | mark 58 0 = 58 | mark 59 0 = -1
            """);
        Script.play("the latest 60 marks are kept: the 60th", BARE + """
            addShower 0 60 100 = 0 | run 60 = 60 | count 2 = 60 | mark 0 0 = 0 | mark 59 0 = 59 | mark 60 0 = -1
            """);
        Script.play("if there would be more, the oldest one is removed", BARE + """
            addShower 0 61 100 = 0 | run 61 = 61 | count 2 = 60 | mark 0 0 = 1 | mark 0 1 = 1 | mark 59 0 = 60 | mark 59 1 = 60 | mark 60 0 = -1
            """);
        Script.play("each mark keeps what was over when the oldest one is removed", BARE + """
            addShower 0 1 105 = 0 | addShower 1 1 107 = 1 | addShower 2 59 101 = 2 | run 60 = 60 | mark 0 2 = 5 | mark 1 2 = 7 | mark 2 2 = 1
            run 1 = 1 | mark 0 2 = 7 | mark 0 0 = 1 | mark 0 1 = 1 | mark 1 2 = 1 | mark 59 2 = 1
            """);
        Script.play("the removed ones stay counted in the accounts", BARE + """
            addShower 0 100 101 = 0 | run 100 = 100 | count 2 = 60 | account 1 = 10000 | account 2 = 100 | mark 0 0 = 40 | mark 0 2 = 1
            """);
    }
}
