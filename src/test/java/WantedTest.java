/** The terms WANTED LEVELS, which zone(zone, 1) of promise 15 tells. */
final class WantedTest {
    public static void main(String[] args) {
        Due due = new Due();
        fromPictureAlone(due);
        greatestOfEachSpot(due);
        meanOfPeakAndMean(due);
        meanOfSixteen(due);
        byOwnShareAtMost(due);
        deadWantsNothing(due);
        asManyRounds(due);
        byNumbers(due);
        noLack(due);
        roundedUp(due);
        neighboursOfDead(due);
        roundedUpForDead(due);
        onlyLivingNeighbours(due);
        nothingForDead(due);
        notAbove255(due);
        zonesThatAskForBlack(due);
        moreThanHalo(due);
        levelAboveZero(due);
        loweredByNumbers(due);
        loweredBehindRounds(due);
        due.close("WantedTest");
    }

    private static void wanted(Due due, String what, Light light, int zone, int want) {
        due.due(what + ": zone(" + zone + ", 1)", light.zone(zone, 1), want);
    }

    private static void wantedOfAll(Due due, String what, Light light, int... want) {
        for (int zone = 0; zone < 18; zone++) {
            wanted(due, what, light, zone, want[zone]);
        }
    }

    private static void fromPictureAlone(Due due) {
        due.terms(15, "The levels that are wanted are found from the picture alone:");
        Light light = Light.asking("4,4+1x1=100;8,4+1x1=100").with(100, 30, 0, 2, 1, 4, 2, 9);
        for (int frame = 0; frame < 40; frame++) {
            wanted(due, "frame " + frame, light, 7, 254);
            wanted(due, "frame " + frame, light, 8, 182);
            light.pass(1);
        }
        due.due("level", light.zone(7, 0), 254);
        due.due("level", light.zone(8, 0), 182);
        Light black = new Light();
        wanted(due, "black", black, 0, 0);
        wanted(due, "black", black, 17, 0);
    }

    private static void greatestOfEachSpot(Due due) {
        due.terms(15, "by the rule: 0 the greatest brightness asked in it");
        for (int y = 4; y < 8; y++) {
            for (int x = 8; x < 12; x++) {
                Light light = Light.alone("8,4+4x4=60");
                light.ask(x, y, 61);
                wanted(due, "peak at " + x + ", " + y, light, 8, 61);
                light.ask(x, y, 59);
                wanted(due, "none at " + x + ", " + y, light, 8, 60);
            }
        }
        Light around = Light.alone("7,3+6x6=255;8,4+4x4=60");
        wanted(due, "brighter ones around it", around, 8, 60);
    }

    private static void meanOfPeakAndMean(Due due) {
        due.terms(15, "1 the mean of that and of the mean (both together divided by 2)");
        Light light = Light.alone("4,4+1x1=100");
        light.set(3, 1);
        wanted(due, "100 and 6", light, 7, 53);
        light.ask(4, 4, 101);
        wanted(due, "101 and 6", light, 7, 53);
        light.ask(4, 4, 112);
        wanted(due, "112 and 7", light, 7, 59);
        light.askAll("4,4+4x4=255");
        wanted(due, "255 and 255", light, 7, 255);
    }

    private static void meanOfSixteen(Due due) {
        due.terms(15, "2 the mean of its 16 spots.");
        Light light = Light.alone("4,4+4x4=10;7,7+1x1=25");
        light.set(3, 2);
        wanted(due, "175 / 16", light, 7, 10);
        light.ask(7, 7, 26);
        wanted(due, "176 / 16", light, 7, 11);
        light.ask(4, 4, 11);
        wanted(due, "177 / 16", light, 7, 11);
        light.ask(8, 8, 255);
        wanted(due, "no spot of another zone", light, 7, 11);
    }

    private static void byOwnShareAtMost(Due due) {
        due.terms(15, "That times 256, divided by the own share, 255 at most.");
        Light light = Light.alone("0,0+4x4=99;4,0+4x4=100;8,0+4x4=255;12,0+4x4=254").with(100);
        wanted(due, "253.4", light, 0, 253);
        wanted(due, "256", light, 1, 255);
        wanted(due, "652.8", light, 2, 255);
        light.set(0, 256);
        wanted(due, "255", light, 2, 255);
        wanted(due, "254", light, 3, 254);
    }

    private static void deadWantsNothing(Due due) {
        due.terms(15, "A dead zone: 0.");
        for (int rule = 0; rule <= 2; rule++) {
            Light light = Light.asking("0,0+24x12=255").with(180, 30, 9, rule);
            light.kill(0, true);
            light.kill(7, true);
            wanted(due, "dead", light, 0, 0);
            wanted(due, "dead", light, 7, 0);
            wanted(due, "not dead", light, 1, 255);
            light.kill(7, false);
            wanted(due, "not dead any more", light, 7, 255);
        }
    }

    /** Zone 7 is dead; seven of those around it shine all they can, so that zone 14 comes up bit by bit. */
    private static void asManyRounds(Due due) {
        due.terms(15, "As many rounds as the setting 4 tells");
        Light light = Light.asking("0,0+12x12=255;4,4+4x4=217;8,8+4x4=0").with(256, 30, 0, 0, 0, 0);
        light.kill(7, true);
        int[] byRounds = {0, 9, 17, 24, 31, 37, 42, 46, 50, 53};
        for (int rounds = 0; rounds <= 9; rounds++) {
            light.set(4, rounds);
            wanted(due, rounds + " rounds", light, 14, byRounds[rounds]);
        }
    }

    private static void byNumbers(Due due) {
        due.terms(15, "for each zone, by numbers, with the levels as they are by then, the lack is");
        Light light = Light.asking("4,4+1x1=100;8,4+1x1=100").with(100, 30, 0, 2, 0);
        wanted(due, "no round", light, 7, 15);
        wanted(due, "no round", light, 8, 15);
        light.set(4, 1);
        wanted(due, "the first", light, 7, 254);
        wanted(due, "the second has light of the first", light, 8, 182);
        Light dead = Light.asking("0,0+4x4=60;4,0+1x1=80").with(256, 30, 0, 2, 1);
        dead.kill(0, true);
        // three help zone 0 with 171 each, so that zone 1 has light enough when its turn comes
        wanted(due, "a dead one first", dead, 1, 5 + 171);
        Light last = Light.asking("20,8+4x4=60;16,8+1x1=80").with(256, 30, 0, 2, 1);
        last.kill(17, true);
        // zone 16 is raised by 75 ahead of zone 17, which lacks 51 then
        wanted(due, "a dead one last", last, 16, 80 + 146);
    }

    private static void noLack(Due due) {
        due.terms(15, "less its light (0 if that is not more).");
        Light light = Light.asking("0,0+12x12=255;4,4+4x4=10").with(256, 30, 0, 0, 9);
        wanted(due, "brighter than it asks", light, 7, 10);
        Light just = Light.asking("4,4+4x4=100").with(256, 0, 0, 0, 9);
        wanted(due, "as bright as it asks", just, 7, 100);
        just.set(0, 200);
        wanted(due, "128 gives 100", just, 7, 128);
        just.askAll("4,4+4x4=99");
        wanted(due, "126 gives 98, 1 is lacking", just, 7, 128);
        Light dead = Light.asking("0,0+12x12=255;4,4+4x4=238;8,8+4x4=254").with(256, 30, 0, 0, 9);
        dead.kill(7, true);
        wanted(due, "a dead one is as bright as it asks", dead, 14, 254);
        dead.askAll("4,4+4x4=239");
        wanted(due, "a dead one lacks 1", dead, 14, 255);
        Light lit = Light.asking("0,0+4x4=100;4,0+4x4=2").with(256, 30, 0, 0, 9);
        lit.kill(1, true);
        wanted(due, "a dead one is brighter than it asks", lit, 0, 100);
        wanted(due, "a dead one is brighter than it asks", lit, 2, 0);
    }

    private static void roundedUp(Due due) {
        due.terms(15, "its level is higher by the lack times 256, divided by the own share and rounded up");
        Light light = Light.asking("4,4+1x1=17").with(128, 0, 0, 2, 1);
        wanted(due, "2 and 4096 / 128", light, 7, 34);
        light.set(0, 180);
        // the mean of 1 wants a level of 1, which gives no light
        wanted(due, "1 and 4352 / 180", light, 7, 26);
        light.ask(4, 4, 101);
        wanted(due, "8 and 24576 / 180", light, 7, 145);
        light.ask(4, 4, 45);
        wanted(due, "2 and 11264 / 180", light, 7, 65);
        light.ask(4, 4, 1);
        wanted(due, "0 and 256 / 180", light, 7, 2);
        light.set(0, 256);
        wanted(due, "0 and 256 / 256", light, 7, 1);
    }

    private static void neighboursOfDead(Due due) {
        due.terms(15, "if it is dead, the level of each zone that is 1 apart from it");
        Light inside = Light.asking("4,4+4x4=15").with(256, 30, 9, 0, 1);
        inside.kill(7, true);
        wantedOfAll(due, "eight", inside, 16, 16, 16, 0, 0, 0, 16, 0, 16, 0, 0, 0, 16, 16, 16, 0, 0, 0);
        Light edge = Light.asking("12,0+4x4=75").with(256, 30, 9, 0, 1);
        edge.kill(3, true);
        wantedOfAll(due, "five", edge, 0, 0, 128, 0, 128, 0, 0, 0, 128, 128, 128, 0, 0, 0, 0, 0, 0, 0);
        Light corner = Light.asking("20,8+4x4=45").with(256, 30, 9, 0, 1);
        corner.kill(17, true);
        wantedOfAll(due, "three", corner, 0, 0, 0, 0, 0, 0, 0, 0, 0, 0, 128, 128, 0, 0, 0, 0, 128, 0);
    }

    private static void roundedUpForDead(Due due) {
        due.terms(15, "divided by the share 1 times the number of these zones, rounded up");
        Light light = Light.asking("4,4+4x4=15").with(256, 30, 0, 0, 1);
        light.kill(7, true);
        wanted(due, "3840 / 240", light, 0, 16);
        light.askAll("4,4+4x4=16");
        wanted(due, "4096 / 240", light, 0, 18);
        light.askAll("4,4+4x4=1");
        wanted(due, "256 / 240", light, 0, 2);
        light.set(1, 29);
        wanted(due, "256 / 232", light, 14, 2);
        light.askAll("4,4+4x4=29");
        wanted(due, "7424 / 232", light, 14, 32);
        light.set(1, 1);
        light.askAll("4,4+4x4=2");
        wanted(due, "512 / 8", light, 14, 64);
    }

    private static void onlyLivingNeighbours(Due due) {
        due.terms(15, "and not dead is higher by the lack times 256");
        Light light = Light.asking("0,0+4x4=30").with(256, 30, 0, 0, 1);
        light.kill(0, true);
        wantedOfAll(due, "three", light, 0, 86, 0, 0, 0, 0, 86, 86, 0, 0, 0, 0, 0, 0, 0, 0, 0, 0);
        light.kill(1, true);
        wantedOfAll(due, "two", light, 0, 0, 0, 0, 0, 0, 128, 128, 0, 0, 0, 0, 0, 0, 0, 0, 0, 0);
        light.kill(6, true);
        wantedOfAll(due, "one", light, 0, 0, 0, 0, 0, 0, 0, 255, 0, 0, 0, 0, 0, 0, 0, 0, 0, 0);
    }

    private static void nothingForDead(Due due) {
        due.terms(15, "(nothing if that share is 0, or there are no such zones).");
        int[] nothing = new int[18];
        Light light = Light.asking("0,0+4x4=60").with(180, 0, 9, 0, 9);
        light.kill(0, true);
        wantedOfAll(due, "the share is 0", light, nothing);
        light.set(1, 30);
        light.kill(1, true);
        light.kill(6, true);
        light.kill(7, true);
        wantedOfAll(due, "all around are dead", light, nothing);
        light.set(1, 0);
        wantedOfAll(due, "both", light, nothing);
        light.set(1, 1);
        light.kill(7, false);
        wanted(due, "one helps by a share of 1", light, 7, 255);
    }

    private static void notAbove255(Due due) {
        due.terms(15, "No level is above 255.");
        Light light = Light.asking("4,4+1x1=255").with(100, 0, 0, 2, 9);
        wanted(due, "raised for itself", light, 7, 255);
        light.ask(4, 4, 98);
        wanted(due, "raised for itself by 239", light, 7, 254);
        light.ask(4, 4, 99);
        wanted(due, "raised for itself by 241", light, 7, 255);
        Light dead = Light.asking("4,4+4x4=255").with(180, 1, 0, 0, 9);
        dead.kill(7, true);
        int[] all = {255, 255, 255, 0, 0, 0, 255, 0, 255, 0, 0, 0, 255, 255, 255, 0, 0, 0};
        wantedOfAll(due, "raised for a dead one", dead, all);
        dead.pass(1);
        due.due("count(1)", dead.count(1), 8 * 255);
    }

    private static void zonesThatAskForBlack(Due due) {
        due.terms(15, "For each zone, by numbers, that has a spot for which 0 is asked");
        for (int y = 4; y < 8; y++) {
            for (int x = 4; x < 8; x++) {
                Light light = Light.alone("4,4+4x4=255");
                light.set(5, 50);
                light.ask(x, y, 1);
                wanted(due, "no black", light, 7, 255);
                light.ask(x, y, 0);
                wanted(due, "black at " + x + ", " + y, light, 7, 59);
            }
        }
        Light ends = Light.alone("0,0+4x4=255;20,8+4x4=255;1,1+1x1=0;21,9+1x1=0");
        ends.set(5, 50);
        wanted(due, "the first zone", ends, 0, 59);
        wanted(due, "the last zone", ends, 17, 59);
    }

    private static void moreThanHalo(Due due) {
        due.terms(15, "is more than the setting 6");
        Light light = Light.alone("4,4+1x1=199");
        light.set(5, 50);
        light.set(6, 9);
        wanted(due, "9.95 is not more than 9", light, 7, 199);
        light.ask(4, 4, 200);
        wanted(due, "10 is more than 9", light, 7, 199);
        light.set(6, 10);
        wanted(due, "10 is not more than 10", light, 7, 200);
        light.ask(4, 4, 255);
        wanted(due, "12 is more than 10", light, 7, 219);
        light.set(6, 0);
        wanted(due, "0.95 is not more than 0", light, 7, 19);
        light.set(6, 12);
        wanted(due, "12 is not more than 12", light, 7, 255);
        light.set(5, 0);
        light.set(6, 0);
        wanted(due, "nothing leaks", light, 7, 255);
        // a sum of 494 is a light of 255
        Light full = Light.asking("0,0+12x12=255;4,4+1x1=0").with(256, 30, 0, 0, 0, 50, 12);
        wanted(due, "a light of 255 leaks 12", full, 7, 255);
    }

    private static void levelAboveZero(Due due) {
        due.terms(15, "and its level is above 0, its level is 1 less.");
        Light light = Light.asking("8,4+4x4=255;4,4+1x1=10").with(100, 30, 0, 0, 0, 50, 0);
        wanted(due, "light of another zone leaks", light, 7, 0);
        wanted(due, "the other zone has no black", light, 8, 255);
        light.set(5, 0);
        wanted(due, "nothing leaks", light, 7, 25);
        Light black = Light.asking("8,4+4x4=255").with(100, 30, 0, 0, 0, 50, 0);
        wanted(due, "0 already", black, 7, 0);
        Light dead = Light.asking("8,4+4x4=255;4,4+1x1=10").with(100, 30, 0, 0, 0, 50, 0);
        dead.kill(7, true);
        wanted(due, "dead", dead, 7, 0);
    }

    private static void loweredByNumbers(Due due) {
        due.terms(15, "as long as the leak of its light (with the levels as they are by then)");
        Light light = Light.asking("4,4+1x1=50;8,4+1x1=50").with(100, 30, 0, 0, 0, 50, 0);
        wanted(due, "the first has light of the second", light, 7, 12);
        wanted(due, "the second has less of the first", light, 8, 47);
        light.askAll("8,4+4x4=1;8,4+1x1=50");
        wanted(due, "black", light, 7, 12);
        wanted(due, "no black", light, 8, 128);
        Light wide = Light.asking("4,4+1x1=50;12,4+1x1=50").with(100, 0, 9, 0, 0, 50, 0);
        wanted(due, "light of 2 apart", wide, 7, 39);
        wanted(due, "less light of 2 apart", wide, 9, 47);
    }

    private static void loweredBehindRounds(Due due) {
        due.terms(15, "3. For each zone, by numbers, that has a spot for which 0 is asked");
        Light light = Light.asking("4,4+1x1=255").with(256, 0, 0, 2, 0, 50, 2);
        wanted(due, "by its mean", light, 7, 15);
        light.set(4, 9);
        wanted(due, "raised to its peak, then lowered", light, 7, 59);
        light.set(6, 12);
        wanted(due, "raised to its peak", light, 7, 255);
        Light dead = Light.asking("4,4+4x4=90").with(256, 30, 0, 0, 9, 50, 2);
        dead.kill(7, true);
        // raised to 96 each; then, one after the other, to where their light is less than 60
        int[] lower = {37, 21, 46, 0, 0, 0, 30, 0, 29, 0, 0, 0, 45, 36, 52, 0, 0, 0};
        wantedOfAll(due, "raised for a dead one, then lowered", dead, lower);
    }
}
