/** Promises 8 type, 9 clearText and 10 fault. */
final class TextTest {
    public static void main(String[] args) {
        Due due = new Due();
        type(due);
        anyCharacter(due);
        faultless(due);
        everyPrefix(due);
        numbers(due);
        places(due);
        longTexts(due);
        noActs(due);
        due.close("TextTest");
    }

    private static void type(Due due) {
        ZonedLight light = new ZonedLight();
        for (int length = 1; length <= 60; length++) {
            due.due("type", light.type('1'), length);
        }
        due.due("type more", light.type('1'), -3);
        due.due("length", light.count(12), 60);
        due.due("type more", light.type('2'), -3);
        due.due("fault", light.fault(), 2);
        due.due("clearText", light.clearText(), 60);
        due.due("clearText again", light.clearText(), 0);
        due.due("length", light.count(12), 0);
        due.due("type", light.type('3'), 1);
        due.due("fault", light.fault(), 1);
        due.due("clearText", light.clearText(), 1);
    }

    private static void anyCharacter(Due due) {
        ZonedLight light = new ZonedLight();
        for (int character = 0; character <= 0xFFFF; character++) {
            boolean isDigit = character >= '0' && character <= '9';
            due.due("type", light.type((char) character), 1);
            due.due("fault of " + character, light.fault(), isDigit ? 1 : 0);
            light.clearText();
        }
        for (int character = 0; character <= 0xFFFF; character++) {
            Due.write(light, "1,1+1x1=1");
            light.type((char) character);
            boolean isDigit = character >= '0' && character <= '9';
            int want = isDigit ? -5 : character == ';' ? 10 : 9;
            due.due("fault behind a part of " + character, light.fault(), want);
        }
    }

    private static void faultOf(Due due, String text, int want) {
        ZonedLight light = new ZonedLight();
        Due.write(light, text);
        due.due("fault of " + text, light.fault(), want);
        due.due("fault again of " + text, light.fault(), want);
        due.due("length of " + text, light.count(12), text.length());
        int answer = light.askAll();
        due.due("askAll of " + text, want == -5 ? answer >= 0 ? 1 : 0 : answer, want == -5 ? 1 : -100 - want);
    }

    private static void faultless(Due due) {
        faultOf(due, "0,0+1x1=0", -5);
        faultOf(due, "23,11+24x12=255", -5);
        faultOf(due, "10,10+10x10=100", -5);
        faultOf(due, "9,9+9x9=99", -5);
        faultOf(due, "0,0+1x1=0;0,0+1x1=0", -5);
        faultOf(due, "19,9+19x12=249;20,11+20x1=250", -5);
    }

    private static void everyPrefix(Due due) {
        String text = "12,3+4x5=6;7,8+9x10=11";
        for (int length = 0; length < text.length(); length++) {
            String start = text.substring(0, length);
            boolean whole = length == 10 || length == 21;
            faultOf(due, start, whole ? -5 : length);
            faultOf(due, start + "-", length);
            faultOf(due, start + " ", length);
        }
    }

    private static void numbers(Due due) {
        faultOf(due, "24,0+1x1=0", 1);
        faultOf(due, "30,0+1x1=0", 1);
        faultOf(due, "00,0+1x1=0", 1);
        faultOf(due, "01,0+1x1=0", 1);
        faultOf(due, "100,0+1x1=0", 2);
        faultOf(due, "0,12+1x1=0", 3);
        faultOf(due, "0,20+1x1=0", 3);
        faultOf(due, "0,01+1x1=0", 3);
        faultOf(due, "0,110+1x1=0", 4);
        faultOf(due, "0,0+0x1=0", 4);
        faultOf(due, "0,0+25x1=0", 5);
        faultOf(due, "0,0+240x1=0", 6);
        faultOf(due, "0,0+1x0=0", 6);
        faultOf(due, "0,0+1x13=0", 7);
        faultOf(due, "0,0+1x20=0", 7);
        faultOf(due, "0,0+1x1=00", 9);
        faultOf(due, "0,0+1x1=01", 9);
        faultOf(due, "0,0+1x1=256", 10);
        faultOf(due, "0,0+1x1=260", 10);
        faultOf(due, "0,0+1x1=300", 10);
        faultOf(due, "0,0+1x1=1000", 11);
        faultOf(due, "0,0+1x1=2550", 11);
        faultOf(due, "0,0+1x1=5;24,0", 11);
        faultOf(due, "0,0+1x1=5;2,0+0", 14);
    }

    private static void places(Due due) {
        String signs = ",+x=;X";
        String[] starts = {"1", "1,1", "1,1+1", "1,1+1x1", "1,1+1x1=1"};
        for (int field = 0; field < 5; field++) {
            for (int sign = 0; sign < signs.length(); sign++) {
                int length = starts[field].length();
                String text = starts[field] + signs.charAt(sign);
                faultOf(due, text, sign == field ? length + 1 : length);
                // a sign in place of a digit
                faultOf(due, starts[field].substring(0, length - 1) + signs.charAt(sign), length - 1);
            }
        }
        faultOf(due, ";", 0);
        faultOf(due, "1,1+1x1=1;;", 10);
        faultOf(due, "1,1+1x1=1;", 10);
        faultOf(due, "-1,1", 0);
    }

    private static void longTexts(Due due) {
        String part = "0,0+1x1=0;";
        String five = part + part + part + part + part;
        faultOf(due, five + "9,9+9x9=9", -5);
        faultOf(due, five + "9,9+9x9=99", -5);
        faultOf(due, five + "9,9+9x9=9;", 60);
        faultOf(due, five + "23,11+24x1", 60);
        faultOf(due, five + "23,11+24x0", 59);
    }

    private static void noActs(Due due) {
        ZonedLight light = new ZonedLight();
        Due.write(light, "0,0+1x1=5");
        light.fault();
        light.clearText();
        due.due("no acts", light.count(11), 0);
        due.due("nothing is asked", light.spot(0, 0, 0), 0);
    }
}
