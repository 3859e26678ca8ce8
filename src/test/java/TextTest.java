/** The terms TEXTS, and promises 8 type, 9 clearText and 10 fault. */
final class TextTest {
    private static final String PART = "0,0+1x1=0;";
    private static final String FIVE_PARTS = PART + PART + PART + PART + PART;

    public static void main(String[] args) {
        Due due = new Due();
        sixtyAtMost(due);
        parts(due);
        x(due);
        y(due);
        width(due);
        height(due);
        brightness(due);
        signsBetween(due);
        onScreenAlone(due);
        zeroInFront(due);
        digitTooMuch(due);
        firstFault(due);
        endsTooEarly(due);
        emptyText(due);
        appends(due);
        anyCharacter(due);
        lengthThen(due);
        fullAtSixty(due);
        empties(due);
        lengthThatItHad(due);
        faultTold(due);
        indexTold(due);
        faultless(due);
        due.close("TextTest");
    }

    private static void faultOf(Due due, String text, int want) {
        Light light = new Light().write(text);
        String shown = text.length() > 20 ? ".." + text.substring(text.length() - 20) : text;
        due.due("fault of " + shown, light.fault(), want);
        due.due("fault again of " + shown, light.fault(), want);
        int answer = light.askAll();
        due.due("askAll of " + shown, want == -5 && answer >= 0 ? -5 : -100 - answer, want);
    }

    private static void sixtyAtMost(Due due) {
        due.terms(8, "There is a text of at most 60 characters, empty at first.");
        Light light = new Light();
        due.due("count(12) at first", light.count(12), 0);
        light.typeOn("9".repeat(59));
        due.due("count(12)", light.count(12), 59);
        due.due("type as number 60", light.type('9'), 60);
        due.due("type as number 61", light.type('9'), -3);
        due.due("count(12)", light.count(12), 60);
    }

    private static void parts(Due due) {
        due.terms(10, "A text of a picture is one or more parts with \";\" between two:");
        faultOf(due, "1,2+3x4=5", -5);
        faultOf(due, "1,2+3x4=5;6,7+8x9=10", -5);
        faultOf(due, FIVE_PARTS + "9,9+9x9=9", -5);
        faultOf(due, "1,2+3x4=5;", 10);
        faultOf(due, "1,2+3x4=5;;", 10);
        faultOf(due, ";1,2+3x4=5", 0);
        faultOf(due, "1,2+3x4=5,6,7+8x9=10", 9);
        faultOf(due, "1,2+3x4=5 6,7+8x9=10", 9);
        faultOf(due, "1,2+3x4;5", 7);
    }

    /** A number of one place of the text, all from the least to the greatest and those around them. */
    private static void number(Due due, String before, int least, int greatest, String behind) {
        for (int number = 0; number <= greatest; number++) {
            int want = number < least ? before.length() : -5;
            faultOf(due, before + number + behind, want);
            faultOf(due, PART + before + number + behind, number < least ? want + PART.length() : -5);
        }
        int last = before.length() + Integer.toString(greatest + 1).length() - 1;
        faultOf(due, before + (greatest + 1) + behind, last);
        faultOf(due, before + (greatest + 7) + behind, last);
        faultOf(due, before + "-1" + behind, before.length());
    }

    private static void x(Due due) {
        due.terms(10, "x (\"0\" to \"23\")");
        number(due, "", 0, 23, ",0+1x1=0");
        faultOf(due, "30,0+1x1=0", 1);
        faultOf(due, "99,0+1x1=0", 1);
        faultOf(due, "230,0+1x1=0", 2);
    }

    private static void y(Due due) {
        due.terms(10, "y (\"0\" to \"11\")");
        number(due, "0,", 0, 11, "+1x1=0");
        faultOf(due, "0,20+1x1=0", 3);
        faultOf(due, "0,110+1x1=0", 4);
    }

    private static void width(Due due) {
        due.terms(10, "a width (1 to 24)");
        number(due, "0,0+", 1, 24, "x1=0");
        faultOf(due, "0,0+30x1=0", 5);
        faultOf(due, "0,0+240x1=0", 6);
        faultOf(due, "0,0+0", 4);
    }

    private static void height(Due due) {
        due.terms(10, "a height (1 to 12)");
        number(due, "0,0+1x", 1, 12, "=0");
        faultOf(due, "0,0+1x20=0", 7);
        faultOf(due, "0,0+1x120=0", 8);
        faultOf(due, "0,0+1x0", 6);
    }

    private static void brightness(Due due) {
        due.terms(10, "a brightness (0 to 255)");
        number(due, "0,0+1x1=", 0, 255, "");
        number(due, "0,0+1x1=", 0, 255, ";1,1+1x1=1");
        faultOf(due, "0,0+1x1=300", 10);
        faultOf(due, "0,0+1x1=2550", 11);
        faultOf(due, "0,0+1x1=1000", 11);
    }

    private static void signsBetween(Due due) {
        due.terms(10, "\",\", y");
        String signs = ",+x=;";
        String wrong = signs + "X.:*- ";
        String[] starts = {"1", "1,1", "1,1+1", "1,1+1x1", "1,1+1x1=1"};
        for (int place = 0; place < 5; place++) {
            int length = starts[place].length();
            for (int sign = 0; sign < wrong.length(); sign++) {
                String text = starts[place] + wrong.charAt(sign);
                faultOf(due, text, sign == place ? length + 1 : length);
                // a sign where a number is due
                faultOf(due, starts[place].substring(0, length - 1) + wrong.charAt(sign), length - 1);
            }
        }
    }

    private static void onScreenAlone(Due due) {
        due.terms(3, "that is asked for all spots of this rectangle (those that are on the screen).");
        Light light = new Light();
        due.due("the last spot", light.askAll("23,11+24x12=40"), 1);
        due.due("it", light.spot(23, 11, 0), 40);
        due.due("the left one", light.spot(22, 11, 0), 0);
        due.due("the upper one", light.spot(23, 10, 0), 0);
        due.due("no wrap-around", light.spot(0, 11, 0) + light.spot(0, 0, 0) + light.spot(23, 0, 0), 0);
        due.due("over the right", light.askAll("22,0+9x1=5"), 2);
        due.due("no wrap-around", light.spot(0, 1, 0) + light.spot(0, 0, 0), 0);
        due.due("up to the right", light.askAll("22,1+2x1=6"), 2);
        due.due("over the bottom", light.askAll("0,10+1x12=7"), 2);
        due.due("up to the bottom", light.askAll("1,10+1x2=8"), 2);
        due.due("all", light.askAll("0,0+24x12=9"), 288);
        due.due("all but a row and a column", light.askAll("1,1+24x12=10"), 23 * 11);
    }

    private static void zeroInFront(Due due) {
        due.terms(10, "Numbers have no zero in front, unless they are the single digit 0");
        faultOf(due, "00,0+1x1=0", 1);
        faultOf(due, "01,0+1x1=0", 1);
        faultOf(due, "0,00+1x1=0", 3);
        faultOf(due, "0,01+1x1=0", 3);
        faultOf(due, "0,0+01x1=0", 4);
        faultOf(due, "0,0+1x01=0", 6);
        faultOf(due, "0,0+1x1=00", 9);
        faultOf(due, "0,0+1x1=01", 9);
        faultOf(due, "0,0+1x1=0255", 9);
        faultOf(due, "0,0+1x1=0", -5);
        faultOf(due, "10,10+10x10=100", -5);
        faultOf(due, "20,10+20x10=200", -5);
    }

    private static void digitTooMuch(Due due) {
        due.terms(10, "a digit by which a number would be greater than told is not allowed.");
        faultOf(due, "24", 1);
        faultOf(due, "3,12", 3);
        faultOf(due, "0,0+25", 5);
        faultOf(due, "0,0+1x13", 7);
        faultOf(due, "0,0+1x1=256", 10);
        faultOf(due, "0,0+1x1=26", -5);
        faultOf(due, "0,0+1x1=260", 10);
        faultOf(due, "23", 2);
        // so many digits that the number would wrap around
        faultOf(due, "4294967296,0+1x1=0", 1);
        faultOf(due, "0,0+1x1=4294967297", 10);
    }

    private static void firstFault(Due due) {
        due.terms(10, "is the index, from 0, of the first character that is not allowed at its place");
        faultOf(due, "x", 0);
        faultOf(due, "-1,1", 0);
        faultOf(due, "24,12+25x13=256", 1);
        faultOf(due, "23,12+25x13=256", 4);
        faultOf(due, "23,11+25x13=256", 7);
        faultOf(due, "23,11+24x13=256", 10);
        faultOf(due, "23,11+24x12=256", 14);
        faultOf(due, "23,11+24x12=255.", 15);
        faultOf(due, "0,0+1x1=5;24,0", 11);
        faultOf(due, "0,0+1x1=5;2,0+0", 14);
        faultOf(due, FIVE_PARTS + "23,11+24x0", 59);
        String text = "12,3+4x5=6;7,8+9x10=11";
        for (int length = 0; length < text.length(); length++) {
            faultOf(due, text.substring(0, length) + "-", length);
            faultOf(due, text.substring(0, length) + " " + text.substring(length), length);
        }
    }

    private static void endsTooEarly(Due due) {
        due.terms(10, "or the length of the text if it ends too early");
        String text = "12,3+4x5=6;7,8+9x10=11";
        for (int length = 1; length < text.length(); length++) {
            boolean whole = length == 10 || length == 21;
            faultOf(due, text.substring(0, length), whole ? -5 : length);
        }
        faultOf(due, FIVE_PARTS + "23,11+24x1", 60);
        faultOf(due, FIVE_PARTS + "9,9+9x9=9;", 60);
    }

    private static void emptyText(Due due) {
        due.terms(10, "(the empty text does).");
        Light light = new Light();
        due.due("at first", light.fault(), 0);
        due.due("askAll", light.askAll(), -100);
        light.write("0,0+1x1=0");
        light.clearText();
        due.due("emptied", light.fault(), 0);
        due.due("askAll", light.askAll(), -100);
    }

    private static void appends(Due due) {
        due.promise(8, "Appends a character to the text.");
        Light light = new Light();
        int[] faults = {1, 2, 3, 4, 5, 6, 7, 8, -5, -5, 10, 10};
        String text = "1,2+3x4=567;";
        for (int i = 0; i < text.length(); i++) {
            light.type(text.charAt(i));
            due.due("fault of " + text.substring(0, i + 1), light.fault(), faults[i]);
        }
        due.due("no act", light.count(11), 0);
        due.due("the picture stays", light.spot(1, 2, 0), 0);
    }

    private static void anyCharacter(Due due) {
        due.promise(8, "- `character`: any character");
        Light light = new Light();
        for (int character = 0; character <= Character.MAX_VALUE; character++) {
            if (light.callsLeft() < 4) {
                light = new Light();
            }
            boolean isDigit = character >= '0' && character <= '9';
            due.due("type of " + character, light.type((char) character), 1);
            due.due("fault of " + character, light.fault(), isDigit ? 1 : 0);
            light.clearText();
        }
        for (int character = 0; character <= Character.MAX_VALUE; character += character < 300 ? 1 : 251) {
            boolean isDigit = character >= '0' && character <= '9';
            int want = isDigit ? -5 : character == ';' ? 10 : 9;
            faultOf(due, "1,1+1x1=1" + (char) character, want);
        }
    }

    private static void lengthThen(Due due) {
        due.promise(8, "Returns the length then");
        Light light = new Light();
        for (int length = 1; length <= 60; length++) {
            due.due("type", light.type((char) (length + 40)), length);
        }
        light.clearText();
        due.due("type into the emptied text", light.type('1'), 1);
    }

    private static void fullAtSixty(Due due) {
        due.promise(8, "FULL if it has 60 characters.");
        Light light = new Light().typeOn(FIVE_PARTS + "9,9+9x9=9");
        due.due("type as number 60", light.type('9'), 60);
        due.due("type as number 61", light.type('9'), -3);
        due.due("type of another", light.type(';'), -3);
        due.due("count(12)", light.count(12), 60);
        due.due("the text is as it was", light.fault(), -5);
        due.due("askAll", light.askAll(), 27);
        due.due("its last number", light.spot(9, 9, 0), 99);
        due.due("still full", light.type('9'), -3);
    }

    private static void empties(Due due) {
        due.promise(9, "Empties the text.");
        Light light = new Light().typeOn("1,2+3x4=5");
        light.clearText();
        due.due("count(12)", light.count(12), 0);
        due.due("fault", light.fault(), 0);
        light.typeOn("6,7+8x9=10");
        due.due("fault of the new one", light.fault(), -5);
        due.due("askAll", light.askAll(), 8 * 5);
        due.due("nothing of the old one", light.spot(1, 2, 0), 0);
        light.clearText();
        due.due("the picture stays", light.spot(6, 7, 0), 10);
        due.due("no act", light.count(11), 1);
    }

    private static void lengthThatItHad(Due due) {
        due.promise(9, "Returns the length that it had.");
        Light light = new Light();
        due.due("of the empty text", light.clearText(), 0);
        light.type('7');
        due.due("of one character", light.clearText(), 1);
        due.due("again", light.clearText(), 0);
        light.typeOn("8".repeat(61));
        due.due("of the full text", light.clearText(), 60);
        due.due("again", light.clearText(), 0);
    }

    private static void faultTold(Due due) {
        due.promise(10, "Tells the fault of the text.");
        Light light = new Light().typeOn("0,0+24x12=255;1");
        due.due("fault", light.fault(), 15);
        due.due("fault again", light.fault(), 15);
        due.due("the text stays", light.count(12), 15);
        light.typeOn(",1+1x1=2");
        due.due("fault of the whole text", light.fault(), -5);
        due.due("nothing is asked", light.spot(0, 0, 0), 0);
        due.due("no act", light.count(11), 0);
    }

    private static void indexTold(Due due) {
        due.promise(10, "Returns the index");
        Light light = new Light();
        due.due("of the empty text", light.fault(), 0);
        light.typeOn("1".repeat(60));
        due.due("of a full text", light.fault(), 2);
        light.write("0,0+1x1=12345");
        due.due("behind a whole part", light.fault(), 11);
        light.write(FIVE_PARTS + "1,1+1x1=2x");
        due.due("at the last character", light.fault(), 59);
        light.write(FIVE_PARTS + "1,1+10x10=");
        due.due("behind the last character", light.fault(), 60);
    }

    private static void faultless(Due due) {
        due.promise(10, "NONE if it has none.");
        faultOf(due, "0,0+1x1=0", -5);
        faultOf(due, "23,11+24x12=255", -5);
        faultOf(due, "19,9+19x12=249;20,11+20x1=250", -5);
        faultOf(due, FIVE_PARTS + "9,9+9x9=99", -5);
    }
}
