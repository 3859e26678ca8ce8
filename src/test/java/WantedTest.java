/** The wanted levels, as promise 15 tells them: by rule, raised where light lacks, lowered for black. */
final class WantedTest {
    public static void main(String[] args) {
        Due due = new Due();
        byRule(due);
        bounded(due);
        raised(due);
        raisedByNumbers(due);
        raisedForDead(due);
        raisedForDeadByNobody(due);
        lowered(due);
        loweredByNumbers(due);
        loweredOnlyForBlack(due);
        loweredToNothing(due);
        fromPictureAlone(due);
        due.close("WantedTest");
    }

    private static ZonedLight with(String text, int... settings) {
        ZonedLight light = Due.asking(text);
        for (int which = 0; which < settings.length; which++) {
            light.set(which, settings[which]);
        }
        return light;
    }

    private static void wanted(Due due, String what, ZonedLight light, int zone, int want) {
        due.due(what + ": zone(" + zone + ", 1)", light.zone(zone, 1), want);
    }

    private static void byRule(Due due) {
        ZonedLight light = with("4,4+1x1=101", 180, 0, 0, 0, 0);
        wanted(due, "peak", light, 7, 143);
        light.set(3, 1);
        wanted(due, "peak and mean", light, 7, 75);
        light.set(3, 2);
        wanted(due, "mean", light, 7, 8);
        wanted(due, "others", light, 8, 0);
    }

    private static void bounded(Due due) {
        ZonedLight light = with("4,4+4x4=100", 100, 0, 0, 0, 0);
        wanted(due, "256 would be too much", light, 7, 255);
        light.ask(4, 4, 99);
        light.set(3, 2);
        wanted(due, "99 on the mean", light, 7, 253);
    }

    private static void raised(Due due) {
        ZonedLight light = with("4,4+1x1=101", 180, 0, 0, 2, 1);
        wanted(due, "one round", light, 7, 145);
        light.set(4, 9);
        wanted(due, "no lack is left", light, 7, 145);
        light.set(3, 0);
        wanted(due, "the rounded down rest of the peak", light, 7, 145);
        ZonedLight bright = with("4,4+1x1=255", 100, 0, 0, 2, 9);
        wanted(due, "255 at most", bright, 7, 255);
    }

    private static void raisedByNumbers(Due due) {
        ZonedLight light = with("4,4+1x1=100;8,4+1x1=100", 100, 30, 0, 2, 0);
        wanted(due, "no round", light, 7, 15);
        wanted(due, "no round", light, 8, 15);
        light.set(4, 1);
        wanted(due, "first", light, 7, 254);
        wanted(due, "second has light of the first", light, 8, 182);
        light.set(4, 2);
        wanted(due, "first", light, 7, 254);
        wanted(due, "second", light, 8, 182);
    }

    private static void raisedForDead(Due due) {
        ZonedLight light = with("4,4+4x4=90", 180, 30);
        light.kill(7, true);
        int[] all = {96, 96, 96, 0, 0, 0, 96, 0, 96, 0, 0, 0, 96, 96, 96, 0, 0, 0};
        for (int zone = 0; zone < 18; zone++) {
            wanted(due, "eight help", light, zone, all[zone]);
        }
        light.set(4, 0);
        wanted(due, "no round", light, 8, 0);
        ZonedLight corner = with("0,0+4x4=60", 180, 30);
        corner.kill(0, true);
        wanted(due, "three help", corner, 1, 171);
        wanted(due, "three help", corner, 6, 171);
        wanted(due, "three help", corner, 7, 171);
        wanted(due, "two apart do not", corner, 2, 0);
        corner.kill(1, true);
        wanted(due, "two help", corner, 7, 255);
        wanted(due, "a dead one does not", corner, 1, 0);
        wanted(due, "nor the one that is helped", corner, 0, 0);
    }

    private static void raisedForDeadByNobody(Due due) {
        ZonedLight light = with("0,0+4x4=60", 180, 0);
        light.kill(0, true);
        for (int zone = 0; zone < 18; zone++) {
            wanted(due, "share is 0", light, zone, 0);
        }
        light.set(1, 30);
        light.kill(1, true);
        light.kill(6, true);
        light.kill(7, true);
        for (int zone = 0; zone < 18; zone++) {
            wanted(due, "all around are dead", light, zone, 0);
        }
        light.kill(7, false);
        wanted(due, "one helps", light, 7, 255);
    }

    private static void lowered(Due due) {
        ZonedLight light = with("4,4+4x4=255;7,7+1x1=0", 180, 9, 1, 0, 3, 50, 10);
        wanted(due, "leak is 8 of 10", light, 7, 255);
        light.set(6, 8);
        wanted(due, "leak is 8 of 8", light, 7, 255);
        light.set(6, 5);
        wanted(due, "leak is 5 of 5", light, 7, 170);
        light.ask(7, 7, 1);
        wanted(due, "no black", light, 7, 255);
        light.ask(4, 4, 0);
        wanted(due, "black at its first spot", light, 7, 170);
        ZonedLight ends = with("0,0+4x4=255;20,8+4x4=255;1,1+1x1=0;21,9+1x1=0", 180, 9, 1, 0, 3, 50, 5);
        wanted(due, "first zone", ends, 0, 170);
        wanted(due, "last zone", ends, 17, 170);
    }

    private static void loweredByNumbers(Due due) {
        ZonedLight light = with("4,4+1x1=50;8,4+1x1=50", 100, 30, 0, 0, 0, 50, 0);
        wanted(due, "first", light, 7, 12);
        wanted(due, "second has less light of the first", light, 8, 47);
    }

    private static void loweredOnlyForBlack(Due due) {
        ZonedLight light = with("8,4+4x4=1;8,4+1x1=50;4,4+1x1=50", 100, 30, 0, 0, 0, 50, 0);
        wanted(due, "black", light, 7, 12);
        wanted(due, "no black", light, 8, 128);
    }

    private static void loweredToNothing(Due due) {
        ZonedLight light = with("8,4+4x4=255;4,4+1x1=10", 100, 30, 0, 0, 0, 50, 0);
        wanted(due, "light of the other one leaks", light, 7, 0);
        wanted(due, "no black", light, 8, 255);
        light.set(5, 0);
        wanted(due, "nothing leaks", light, 7, 25);
    }

    private static void fromPictureAlone(Due due) {
        ZonedLight light = with("4,4+1x1=100;8,4+1x1=100", 100, 30, 0, 2, 1, 4, 2, 9);
        for (int frame = 0; frame < 40; frame++) {
            wanted(due, "frame " + frame, light, 7, 254);
            wanted(due, "frame " + frame, light, 8, 182);
            light.pass(1);
        }
        due.due("level", light.zone(7, 0), 254);
        due.due("level", light.zone(8, 0), 182);
    }
}
