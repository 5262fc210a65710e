/** Promises 22 to 25: type, clearText, fault, lay. */
public final class TextTest {
    public static void main(String[] args) {
        type();
        clearText();
        faultless();
        numbersMissing();
        signsMisplaced();
        outOfRange();
        tooMany();
        faultOfThePresent();
        lay();
        Script.end();
    }

    private static void type() {
        Script.play("type", """
            type 31 = -1 | type 127 = -1 | type -1 = -1 | type 65584 = -1 | count 12 = 0
            type 32 = 1 | type 126 = 2 | count 12 = 2 | count 11 = 0
            """);
        RainRecorder full = new RainRecorder();
        for (int i = 1; i <= 100; i++) {
            Script.due("type " + i, full.type('0'), i);
        }
        Script.play("a full text", full, "type 48 = -3 | type 31 = -1 | count 12 = 100 | clearText = 100 | type 48 = 1");
    }

    private static void clearText() {
        Script.play("clearText", """
            clearText = 0 | write abc = 3 | clearText = 3 | count 12 = 0 | clearText = 0 | undo = -2 | fault 0 = -4
            """);
    }

    private static void faultAt(String text, int position, int reason) {
        Script.play("fault of " + text, "write %s = %d | fault 0 = %d | fault 1 = %d | lay = -2 | count 11 = 0".formatted(
                text, text.length(), position, reason));
    }

    private static void faultless() {
        Script.play("no text", "fault 0 = -4 | fault 1 = -4 | fault 2 = -1 | fault -1 = -1");
        Script.play("what was cleared", "write 0+1*1; = 6 | clearText = 6 | write 0+1*1 = 5 | fault 1 = 2 | clearText = 5 | lay = 0");
        for (String text : new String[] {"0+1*1;", "5000+500*200;", "0000+0001*0001;", "7+8*9;1+2*3;"}) {
            Script.play("no fault of " + text, "write %s = %d | fault 0 = -4 | fault 1 = -4 | fault 2 = -1".formatted(
                    text, text.length()));
        }
    }

    private static void numbersMissing() {
        faultAt("+1*1;", 0, 1);
        faultAt("x", 0, 1);
        faultAt(";", 0, 1);
        faultAt("-1+1*1;", 0, 1);
        faultAt("1+", 0, 1);
        faultAt("1+*1;", 0, 1);
        faultAt("1+1*", 0, 1);
        faultAt("1+1*;", 0, 1);
        faultAt("1+ 1*1;", 0, 1);
        faultAt("1+1*1;;", 6, 1);
        faultAt("1+1*1; 1+1*1;", 6, 1);
        faultAt("9999+*1;", 0, 1);
        faultAt("/+1*1;", 0, 1);
        faultAt(":+1*1;", 0, 1);
    }

    private static void signsMisplaced() {
        faultAt("1", 0, 2);
        faultAt("1+1", 0, 2);
        faultAt("1+1*1", 0, 2);
        faultAt("1*1+1;", 0, 2);
        faultAt("1;1*1;", 0, 2);
        faultAt("1+1+1;", 0, 2);
        faultAt("1+1*1*", 0, 2);
        faultAt("1 +1*1;", 0, 2);
        faultAt("00001+1*1;", 0, 2);
        faultAt("1+00001*1;", 0, 2);
        faultAt("1+1*00001;", 0, 2);
        faultAt("1+501*1", 0, 2);
        faultAt("1+1*1;10+10*10;5", 15, 2);
    }

    private static void outOfRange() {
        faultAt("5001+1*1;", 0, 3);
        faultAt("9999+1*1;", 0, 3);
        faultAt("0+0*1;", 0, 3);
        faultAt("0+501*1;", 0, 3);
        faultAt("0+1*0;", 0, 3);
        faultAt("0+1*201;", 0, 3);
        faultAt("0+1*1;0+1*201;;", 6, 3);
    }

    private static void tooMany() {
        String twelve = "0+1*1;".repeat(12);
        Script.play("twelve", "write " + twelve + " = 72 | fault 0 = -4 | lay = 12 | count 1 = 12 | fault 0 = 0 | fault 1 = 4");
        faultAt(twelve + "0+1*1;", 72, 4);
        faultAt(twelve + "0+1*0;", 72, 3);
        faultAt(twelve + "0+1*1", 72, 2);
        faultAt(twelve + "0+1*", 72, 1);
        Script.play("those told ahead are counted", """
            addShower 0 5 1 = 0 | addShower 0 5 1 = 1 | addShower 0 5 1 = 2 | addShower 0 5 1 = 3 | addShower 0 5 1 = 4
            addShower 0 5 1 = 5 | addShower 0 5 1 = 6 | addShower 0 5 1 = 7 | addShower 0 5 1 = 8 | addShower 0 5 1 = 9
            write 0+1*1;0+1*1;0+1*1; = 18 | fault 0 = 12 | fault 1 = 4 | lay = -2 | cancel 0 = 9
            fault 0 = -4 | lay = 3 | count 1 = 12 | fault 0 = 0 | fault 1 = 4
            """);
    }

    private static void faultOfThePresent() {
        Script.play("the begin is counted from the present tick on", """
            write 4999+1*1; = 9 | fault 1 = -4 | run 1 = 0 | fault 1 = -4 | run 1 = 0 | fault 0 = 0 | fault 1 = 3
            undo = 1 | lay = 1 | shower 0 0 = 5000
            """);
    }

    private static void lay() {
        Script.play("lay", """
            run 10 = 0 | addShower 15 1 9 = 0 | addShower 12 1 8 = 0 | lay = 0 | count 11 = 4
            write 5+20*030;0+1*2;2+3*4; = 21 | lay = 3 | count 11 = 5 | count 1 = 5 | count 12 = 21
            shower 0 0 = 10 | shower 0 1 = 1 | shower 0 2 = 2 | shower 1 2 = 8 | shower 2 0 = 12 | shower 2 1 = 3
            shower 2 2 = 4 | shower 3 2 = 9 | shower 4 0 = 15 | shower 4 1 = 20 | shower 4 2 = 30
            lay = 3 | count 1 = 8 | undo = 4 | undo = 3 | count 1 = 2 | count 12 = 21
            """);
    }
}
