/** Promises 22 to 25 at their edges: a test for each sentence of the document that names a boundary case. */
public final class TextEdgesTest {
    private static final String SHOWER = "0+1*1;";
    private static final String TO_5000 = "run 1000 = 0 | run 1000 = 0 | run 1000 = 0 | run 1000 = 0 | run 1000 = 0 |";

    public static void main(String[] args) {
        type();
        fullText();
        clearText();
        digits();
        missingNumbers();
        misplacedSigns();
        firstFromTheLeft();
        ranges();
        beginOfShower();
        tooMany();
        orderOfReasons();
        positions();
        fault();
        lay();
        laidShowers();
        layAsOneChange();
        Script.end();
    }

    private static String write(String text) {
        return "write %s = %d |".formatted(text, text.length());
    }

    private static void faultAt(String name, String text, int position, int reason) {
        Script.play(name + ": " + text, write(text) + "fault 0 = %d | fault 1 = %d | lay = -2 | count 1 = 0".formatted(position, reason));
    }

    private static void noFault(String name, String text, int showers) {
        Script.play(name + ": " + text, write(text) + "fault 0 = -4 | fault 1 = -4 | lay = %d | count 1 = %d".formatted(showers, showers));
    }

    private static void type() {
        Script.play("character: 32 at the least", "type 31 = -1 | count 12 = 0 | type 32 = 1");
        Script.play("character: 126 at the most", "type 127 = -1 | count 12 = 0 | type 126 = 1");
        Script.play("character: no digit in disguise", """
            type 304 = -1 | type 65584 = -1 | type -48 = -1 | type 0 = -1 | count 12 = 0
            """);
        for (int character = 32; character <= 126; character++) {
            Script.play("each character", "type %d = 1 | count 12 = 1 | fault 1 = %d".formatted(
                    character, character >= '0' && character <= '9' ? 2 : 1));
        }
    }

    private static void fullText() {
        String hundred = (SHOWER + "0+1*1;;;").repeat(7) + "zz";
        Script.play("at most 100 characters: the 100th", write(hundred.substring(0, 99)) + """
            type 59 = 100 | count 12 = 100
            """);
        Script.play("LIMIT_REACHED if it has 100 characters", write(hundred) + """
            type 59 = -3 | type 32 = -3 | type 126 = -3 | count 12 = 100
            """);
        Script.play("type: INVALID_ARGUMENT rather than LIMIT_REACHED", write(hundred) + """
            type 31 = -1 | type 127 = -1
            """);
        String just = "0000+0001*0001;".repeat(6) + "0+01*0001;";
        Script.play("a text of 100 characters is read to its end", write(just) + """
            count 12 = 100 | fault 0 = -4 | lay = 7
            """);
        Script.play("the last ; as the 100th character", write(("0+1*1;").repeat(2) + "000+001*01;".repeat(8)) + """
            fault 0 = -4 | lay = 10
            """);
        Script.play("a 5th digit as the 100th character", write("0000+0001*0001;".repeat(6) + "0+01*00001") + """
            type 59 = -3 | fault 0 = 90 | fault 1 = 2
            """);
        Script.play("the ; that would be the 101st character is missing", write("0000+0001*0001;".repeat(6) + "0+001*0001") + """
            type 59 = -3 | fault 0 = 90 | fault 1 = 2
            """);
        Script.play("the number that would begin with the 101st character is missing", write("0000+0001*0001;".repeat(6) + SHOWER + "0+1*") + """
            type 49 = -3 | fault 0 = 96 | fault 1 = 1
            """);
    }

    private static void clearText() {
        Script.play("an empty text cleared", "clearText = 0 | count 12 = 0");
        Script.play("a text of one character cleared", "type 65 = 1 | clearText = 1 | count 12 = 0 | clearText = 0");
        Script.play("a full text cleared", write("x".repeat(100)) + """
            clearText = 100 | count 12 = 0 | type 48 = 1 | fault 1 = 2
            """);
        Script.play("nothing of the text before is left", write(SHOWER + SHOWER) + """
            clearText = 12 | write 0+1*1; = 6 | fault 0 = -4 | lay = 1
            """);
        Script.play("the ; of the text before is not read", write(SHOWER) + """
            clearText = 6 | write 0+1*1 = 5 | fault 0 = 0 | fault 1 = 2 | lay = -2
            """);
        Script.play("the digit of the text before is not read", write(SHOWER) + """
            clearText = 6 | write 0+1* = 4 | fault 0 = 0 | fault 1 = 1 | lay = -2
            """);
        Script.play("nothing of the fault before is left", write("x") + """
            fault 1 = 1 | clearText = 1 | fault 1 = -4 | fault 0 = -4 | lay = 0
            """);
    }

    private static void digits() {
        noFault("1 digit each", "0+1*1;", 1);
        noFault("4 digits each", "0000+0001*0001;", 1);
        noFault("zeros may stand ahead", "01+002*0003;", 1);
        faultAt("5 digits of the begin", "00000+1*1;", 0, 2);
        faultAt("5 digits of the length", "0+00001*1;", 0, 2);
        faultAt("5 digits of the rate", "0+1*00001;", 0, 2);
        faultAt("10 digits", "4294967296+1*1;", 0, 2);
        Script.play("the numbers of 4 digits", write("0012+0345*0067;") + """
            lay = 1 | shower 0 0 = 12 | shower 0 1 = 345 | shower 0 2 = 67
            """);
    }

    private static void missingNumbers() {
        faultAt("no begin", "+1*1;", 0, 1);
        faultAt("no length", "0+*1;", 0, 1);
        faultAt("no rate", "0+1*;", 0, 1);
        faultAt("the text ends ahead of the length", "0+", 0, 1);
        faultAt("the text ends ahead of the rate", "0+1*", 0, 1);
        faultAt("the character below 0", "/+1*1;", 0, 1);
        faultAt("the character above 9", ":+1*1;", 0, 1);
        faultAt("a sign ahead of the begin", "+0+1*1;", 0, 1);
        faultAt("a minus", "0+-1*1;", 0, 1);
        faultAt("a blank ahead of a number", " 0+1*1;", 0, 1);
        Script.play("a blank alone", "type 32 = 1 | fault 0 = 0 | fault 1 = 1 | lay = -2");
        faultAt("a ; alone", ";", 0, 1);
        faultAt("a ; too much", "0+1*1;;", 6, 1);
    }

    private static void misplacedSigns() {
        faultAt("no + and the text ends", "0", 0, 2);
        faultAt("no * and the text ends", "0+1", 0, 2);
        faultAt("no ; and the text ends", "0+1*1", 0, 2);
        faultAt("* in place of +", "0*1*1;", 0, 2);
        faultAt("; in place of +", "0;1*1;", 0, 2);
        faultAt("+ in place of *", "0+1+1;", 0, 2);
        faultAt("; in place of *", "0+1;1;", 0, 2);
        faultAt("+ in place of ;", "0+1*1+", 0, 2);
        faultAt("* in place of ;", "0+1*1*", 0, 2);
        faultAt("a blank ahead of a sign", "0 +1*1;", 0, 2);
        faultAt("a letter in a number", "0+1a*1;", 0, 2);
    }

    private static void firstFromTheLeft() {
        faultAt("a missing number ahead of a misplaced sign", "0+*1*", 0, 1);
        faultAt("a misplaced sign ahead of a missing number", "0*+*;", 0, 2);
        faultAt("a number out of its range, but a missing one behind it", "9999+0*;", 0, 1);
        faultAt("a number out of its range, but no ; behind it", "9999+0*0", 0, 2);
        faultAt("a number out of its range, but a misplaced sign behind it", "0+0+1;", 0, 2);
        faultAt("an earlier shower out of its range, a later one misplaced", "0+0*1;0*1", 0, 3);
        faultAt("an earlier shower misplaced, a later one out of its range", "0+1*1+0+0*0;", 0, 2);
    }

    private static void ranges() {
        noFault("length: 1 at the least", "0+1*1;", 1);
        faultAt("length: 0", "0+0*1;", 0, 3);
        noFault("length: 500 at the most", "0+500*1;", 1);
        faultAt("length: 501", "0+501*1;", 0, 3);
        faultAt("length: the greatest number", "0+9999*1;", 0, 3);
        noFault("rate: 1 at the least", "0+1*0001;", 1);
        faultAt("rate: 0", "0+1*0;", 0, 3);
        noFault("rate: 200 at the most", "0+1*200;", 1);
        faultAt("rate: 201", "0+1*201;", 0, 3);
        faultAt("rate: the greatest number", "0+1*9999;", 0, 3);
    }

    private static void beginOfShower() {
        noFault("begin: 0, the present tick", "0+1*1;", 1);
        noFault("begin: the tick 5000", "5000+1*1;", 1);
        faultAt("begin: behind the tick 5000", "5001+1*1;", 0, 3);
        faultAt("begin: the greatest number", "9999+1*1;", 0, 3);
        Script.play("begin at the tick 5000 from a later tick on", "run 7 = 0 |" + write("4993+1*1;") + """
            fault 0 = -4 | lay = 1 | shower 0 0 = 5000
            """);
        Script.play("begin behind the tick 5000 from a later tick on", "run 7 = 0 |" + write("4994+1*1;") + """
            fault 0 = 0 | fault 1 = 3 | lay = -2
            """);
        Script.play("begin counted from the last tick on", TO_5000 + write("0+500*200;") + """
            fault 0 = -4 | lay = 1 | shower 0 0 = 5000 | count 13 = 200
            """);
        Script.play("begin behind the last tick", TO_5000 + write("1+1*1;") + "fault 1 = 3 | lay = -2 | count 1 = 0");
        Script.play("a fault that comes as time goes by", write("4000+1*1;") + """
            run 1000 = 0 | fault 1 = -4 | run 1 = 0 | fault 0 = 0 | fault 1 = 3 | lay = -2 | undo = 1 | fault 1 = -4
            lay = 1
            """);
    }

    private static void tooMany() {
        noFault("12 showers", SHOWER.repeat(12), 12);
        faultAt("a 13th shower", SHOWER.repeat(13), 72, 4);
        faultAt("the first of several too many", SHOWER.repeat(16), 72, 4);
        Script.play("those told ahead are counted, too: 11 and 1", write(SHOWER.repeat(11)) + "lay = 11 | clearText = 66 |" + write(SHOWER) + """
            fault 0 = -4 | lay = 1 | count 1 = 12
            """);
        Script.play("those told ahead are counted, too: 12 and 1", write(SHOWER.repeat(12)) + "lay = 12 | clearText = 72 |" + write(SHOWER) + """
            fault 0 = 0 | fault 1 = 4 | lay = -2 | count 1 = 12
            """);
        Script.play("those told ahead are counted, too: 11 and 2", write(SHOWER.repeat(11)) + "lay = 11 | clearText = 66 |" + write(SHOWER + SHOWER) + """
            fault 0 = 6 | fault 1 = 4 | lay = -2 | count 1 = 11 | cancel 0 = 10 | fault 0 = -4 | lay = 2
            """);
        Script.play("those that have ended are not", write(SHOWER.repeat(12)) + """
            lay = 12 | fault 1 = 4 | run 1 = 0 | fault 1 = -4 | lay = 12 | count 1 = 12
            """);
        Script.play("an empty text with 12 showers told ahead", write(SHOWER.repeat(12)) + """
            lay = 12 | clearText = 72 | fault 0 = -4 | lay = 0 | count 1 = 12
            """);
    }

    private static void orderOfReasons() {
        faultAt("3 comes before 4", SHOWER.repeat(12) + "0+1*0;", 72, 3);
        faultAt("2 where the 13th has no ; yet", SHOWER.repeat(12) + "0+1*0", 72, 2);
        faultAt("1 where the 13th has no rate yet", SHOWER.repeat(12) + "0+1*", 72, 1);
        faultAt("4 of an earlier shower, 3 of a later one", SHOWER.repeat(13) + "0+1*0;", 72, 4);
    }

    private static void positions() {
        faultAt("the first character of the first shower", "0+0*1;" + SHOWER, 0, 3);
        faultAt("the first character of the second shower", SHOWER + "0+0*1;" + SHOWER, 6, 3);
        faultAt("the first character behind all showers", SHOWER + "0000+0001*0001;" + "x", 21, 1);
        faultAt("of two faults the first", SHOWER + "0+1*201;" + "0+0*1;", 6, 3);
        faultAt("not the character that is wrong", SHOWER + "10+20*30", 6, 2);
    }

    private static void fault() {
        Script.play("fault: what, 0 to 1, with a fault", write("x") + """
            fault -1 = -1 | fault 0 = 0 | fault 1 = 1 | fault 2 = -1
            """);
        Script.play("fault: INVALID_ARGUMENT rather than NOT_FOUND", """
            fault -1 = -1 | fault 2 = -1 | fault 0 = -4 | fault 1 = -4
            """);
        Script.play("NOT_FOUND if the text has no fault", write(SHOWER) + "fault 0 = -4 | fault 1 = -4");
        Script.play("NOT_FOUND also if it is empty", "fault 0 = -4 | fault 1 = -4");
        Script.play("a text at each of its lengths", """
            type 48 = 1 | fault 1 = 2 | type 43 = 2 | fault 1 = 1 | type 49 = 3 | fault 1 = 2 | type 42 = 4 | fault 1 = 1
            type 49 = 5 | fault 1 = 2 | type 59 = 6 | fault 1 = -4 | type 48 = 7 | fault 0 = 6 | fault 1 = 2
            """);
    }

    private static void lay() {
        Script.play("NOT_POSSIBLE if it has a fault", write(SHOWER + "x") + """
            lay = -2 | count 1 = 0 | count 11 = 0 | count 12 = 7
            """);
        Script.play("no shower of a text with a fault is added", write(SHOWER + SHOWER + "0+0*1;") + """
            lay = -2 | count 1 = 0
            """);
        Script.play("how many there are in the text: none", "addShower 0 1 1 = 0 | lay = 0 | count 1 = 1");
        Script.play("how many there are in the text, not how many are told ahead", "addShower 0 1 1 = 0 |" + write(SHOWER + SHOWER) + """
            lay = 2 | count 1 = 3
            """);
        Script.play("the text stays", write(SHOWER.repeat(6)) + """
            lay = 6 | count 12 = 36 | lay = 6 | count 12 = 36 | count 1 = 12 | lay = -2 | fault 0 = 0 | fault 1 = 4
            """);
        Script.play("the text stays and lays from another tick on", write("3+1*1;") + """
            lay = 1 | run 2 = 0 | lay = 1 | shower 0 0 = 3 | shower 1 0 = 5
            """);
    }

    private static void laidShowers() {
        Script.play("one after the other, behind those with equal begins", "addShower 2 1 9 = 0 | addShower 3 1 8 = 1 |" + write("2+1*1;2+1*2;1+1*3;") + """
            lay = 3 | shower 0 2 = 3 | shower 1 2 = 9 | shower 2 2 = 1 | shower 3 2 = 2 | shower 4 2 = 8
            """);
        Script.play("at the edges of their ranges", write("0+500*200;4999+1*1;") + """
            run 1 = 0 | lay = 2 | shower 0 0 = 1 | shower 0 1 = 500 | shower 0 2 = 200 | shower 1 0 = 5000
            shower 1 1 = 1 | shower 1 2 = 1
            """);
        Script.play("a laid shower rains", write("0+2*7;") + """
            lay = 1 | count 13 = 7 | run 2 = 0 | account 0 = 14 | count 1 = 0
            """);
    }

    private static void layAsOneChange() {
        Script.play("many showers are one change", write(SHOWER.repeat(12)) + """
            lay = 12 | count 11 = 1 | undo = 0 | count 1 = 0 | count 12 = 72 | undo = -2 | lay = 12
            """);
        Script.play("lay in a full history", "wind = 500 | wind = 500 | wind = 500 | wind = 500 | wind = 500 |" + write(SHOWER) + """
            lay = 1 | count 11 = 5 | undo = 4 | count 1 = 0
            """);
    }
}
