/** Promises 8 to 11: heat, cool, blow, cut. */
public final class WarmthBlowsTest {
    private static final int DRAW = AnvilHouse.DRAW;
    private static final int UPSET = AnvilHouse.UPSET;

    private WarmthBlowsTest() {
    }

    public static void main(String[] args) {
        minutesInTheFurnace();
        colderFurnace();
        scaleAtItsEdges();
        minutesAreThoseOfOneHeat();
        grainGrowsAtItsEdges();
        grainHasAMost();
        heatRefuses();
        cool();
        coolRefuses();
        draw();
        upset();
        lastSection();
        laps();
        lapsWithoutMoving();
        grainOfBlows();
        coldBlow();
        blowRefuses();
        cut();
        cutRefuses();
        Check.end();
    }

    /** One billet of so much area at each section, of a steel that may be heated nine times. */
    private static AnvilHouse forge(int area) {
        AnvilHouse x = new AnvilHouse();
        x.steel(0, 9, 60, 4);
        x.melt(0);
        x.billet(0, area);
        return x;
    }

    private static void skinAndCore(String when, AnvilHouse x, int skin, int core) {
        Check.due("the skin " + when, skin, x.billetIs(0, 0));
        Check.due("the core " + when, core, x.billetIs(0, 1));
    }

    private static void minutesInTheFurnace() {
        AnvilHouse x = forge(30);
        Check.due("heat(0, 1200, 1)", 69, x.heat(0, 1200, 1));
        skinAndCore("behind a minute", x, 315, 69);
        Check.due("heat(0, 1200, 1) again", 146, x.heat(0, 1200, 1));
        skinAndCore("behind two minutes", x, 536, 146);
        Check.due("two heats", 2, x.billetIs(0, 3));
        AnvilHouse y = forge(30);
        Check.due("heat(0, 1200, 6)", 525, y.heat(0, 1200, 6));
        skinAndCore("behind six minutes", y, 989, 525);
        Check.due("one heat", 1, y.billetIs(0, 3));
        Check.due("the least furnace", 192, forge(30).heat(0, 200, 200));
        Check.due("the hottest furnace", 1292, forge(30).heat(0, 1300, 60));
    }

    private static void colderFurnace() {
        AnvilHouse x = forge(30);
        x.heat(0, 1300, 60);
        skinAndCore("when hot", x, 1297, 1292);
        Check.due("a minute in a colder furnace", 1248, x.heat(0, 200, 1));
        skinAndCore("behind a colder minute", x, 1023, 1248);
        Check.due("another one", 1177, x.heat(0, 200, 1));
        skinAndCore("behind two colder minutes", x, 818, 1177);
    }

    /** Behind the fifth minute a skin of 799 makes no scale, one of 800 does. */
    private static void scaleAtItsEdges() {
        AnvilHouse x = forge(30);
        x.heat(0, 1042, 5);
        Check.due("the skin", 799, x.billetIs(0, 0));
        Check.due("no scale at 799", 240, x.billetIs(0, 2));
        x = forge(30);
        x.heat(0, 1043, 5);
        Check.due("the skin", 800, x.billetIs(0, 0));
        Check.same("scale at 800", " 29 29 29 29 29 29 29 29", Look.areas(x, 0));
        x = forge(30);
        x.heat(0, 1300, 4);
        Check.due("no scale ahead of the fifth minute", 240, x.billetIs(0, 2));
        x.cut(0, 2, 28);
        x.cut(0, 5, 29);
        x.heat(0, 1300, 19);
        Check.same("scale leaves 1", " 27 27 1 27 27 1 27 27", Look.areas(x, 0));
        Check.holds("scale that was not is not counted", x.balances(0));
    }

    private static void minutesAreThoseOfOneHeat() {
        AnvilHouse x = forge(30);
        for (int i = 0; i < 9; i++) {
            x.heat(0, 1300, 4);
        }
        Check.due("no scale of nine times four minutes", 240, x.billetIs(0, 2));
        Check.due("no grain of nine times four minutes", 50, x.billetIs(0, 4));
        x = forge(30);
        x.heat(0, 1300, 9);
        x.cool(0, 1);
        Check.due("cooling makes no scale", 232, x.billetIs(0, 2));
        x.cool(0, 10);
        Check.due("cooling makes no scale", 232, x.billetIs(0, 2));
        Check.due("cooling makes no grain", 50, x.billetIs(0, 4));
    }

    private static void grainGrowsAtItsEdges() {
        AnvilHouse x = forge(30);
        x.heat(0, 959, 20);
        Check.due("the core", 899, x.billetIs(0, 1));
        Check.due("no grain at 899", 50, x.billetIs(0, 4));
        x = forge(30);
        x.heat(0, 960, 19);
        x.heat(0, 960, 1);
        Check.due("the core", 900, x.billetIs(0, 1));
        Check.due("no grain ahead of the tenth minute", 50, x.billetIs(0, 4));
        x = forge(30);
        x.heat(0, 960, 20);
        Check.due("the core", 900, x.billetIs(0, 1));
        Check.due("grain at 900", 51, x.billetIs(0, 4));
    }

    private static void grainHasAMost() {
        AnvilHouse x = forge(200);
        int[] grains = {69, 89, 109, 129, 149, 169, 189, 200, 200};
        for (int i = 0; i < grains.length; i++) {
            x.heat(0, 1300, 200);
            Check.due("the grain behind heat " + (i + 1), grains[i], x.billetIs(0, 4));
        }
    }

    private static void heatRefuses() {
        AnvilHouse x = new AnvilHouse();
        x.melt(0);
        x.billet(0, 30);
        x.heat(0, 1000, 60);
        x.heat(0, 1000, 60);
        Check.unchanged(x, "heat", () -> {
            Check.noSuch("heat(-1, 1000, 1)", () -> x.heat(-1, 1000, 1));
            Check.noSuch("heat(1, 199, 0)", () -> x.heat(1, 199, 0));
            Check.outOfRange("heat(0, 199, 1)", () -> x.heat(0, 199, 1));
            Check.outOfRange("heat(0, 1301, 1)", () -> x.heat(0, 1301, 1));
            Check.outOfRange("heat(0, 1000, 0)", () -> x.heat(0, 1000, 0));
            Check.outOfRange("heat(0, 1000, 201)", () -> x.heat(0, 1000, 201));
            Check.outOfRange("heat(0, 1000, the most)", () -> x.heat(0, 1000, Integer.MAX_VALUE));
        });
        x.heat(0, 1000, 60);
        x.quench(1, AnvilHouse.OIL);
        Check.unchanged(x, "heat", () -> {
            Check.notNow("a fourth heat of three", () -> x.heat(0, 1000, 1));
            Check.outOfRange("a fourth heat of no minutes", () -> x.heat(0, 1000, 0));
            Check.noSuch("a heat of no billet", () -> x.heat(1, 1000, 1));
        });
    }

    private static void cool() {
        AnvilHouse x = forge(30);
        x.heat(0, 1300, 60);
        Check.due("cool(0, 1)", 1272, x.cool(0, 1));
        skinAndCore("behind a minute", x, 1170, 1272);
        Check.due("cool(0, 3)", 1134, x.cool(0, 3));
        skinAndCore("behind four minutes", x, 859, 1134);
        Check.due("cool(0, 7)", 710, x.cool(0, 7));
        skinAndCore("behind eleven minutes", x, 424, 710);
        Check.due("cool(0, 200)", 34, x.cool(0, 200));
        skinAndCore("when cold", x, 29, 34);
        Check.due("no heat by cooling", 1, x.billetIs(0, 3));
        Check.due("cool a new billet", 20, forge(30).cool(0, 200));
    }

    private static void coolRefuses() {
        AnvilHouse x = forge(30);
        x.heat(0, 1300, 60);
        Check.unchanged(x, "cool", () -> {
            Check.noSuch("cool(-1, 1)", () -> x.cool(-1, 1));
            Check.noSuch("cool(1, 0)", () -> x.cool(1, 0));
            Check.outOfRange("cool(0, 0)", () -> x.cool(0, 0));
            Check.outOfRange("cool(0, -1)", () -> x.cool(0, -1));
            Check.outOfRange("cool(0, 201)", () -> x.cool(0, 201));
        });
    }

    private static void draw() {
        AnvilHouse x = forge(30);
        x.heat(0, 1300, 60);
        Check.due("blow(0, 2, DRAW, 4)", 4, x.blow(0, 2, DRAW, 4));
        Check.same("drawn", " 18 18 14 22 18 18 18 18", Look.areas(x, 0));
        skinAndCore("behind a blow", x, 1170, 1272);
        Check.due("at most so that 1 is left", 13, x.blow(0, 2, DRAW, 20));
        Check.same("drawn out", " 18 18 1 35 18 18 18 18", Look.areas(x, 0));
        Check.due("nothing is left to draw", 0, x.blow(0, 2, DRAW, 1));
        Check.same("drawn in vain", " 18 18 1 35 18 18 18 18", Look.areas(x, 0));
        skinAndCore("behind three blows", x, 952, 1189);
    }

    private static void upset() {
        AnvilHouse x = forge(30);
        x.heat(0, 1300, 60);
        Check.due("blow(0, 2, UPSET, 4)", 4, x.blow(0, 2, UPSET, 4));
        Check.same("upset", " 18 18 22 14 18 18 18 18", Look.areas(x, 0));
        Check.due("at most so that 1 is left", 13, x.blow(0, 2, UPSET, 20));
        Check.same("upset more", " 18 18 35 1 18 18 18 18", Look.areas(x, 0));
        Check.due("nothing is left to upset", 0, x.blow(0, 2, UPSET, 1));
    }

    private static void lastSection() {
        AnvilHouse x = forge(30);
        x.heat(0, 1300, 60);
        Check.due("blow(0, 7, DRAW, 5)", 5, x.blow(0, 7, DRAW, 5));
        Check.same("to the one ahead", " 18 18 18 18 18 18 23 13", Look.areas(x, 0));
        Check.due("blow(0, 7, UPSET, 7)", 7, x.blow(0, 7, UPSET, 7));
        Check.same("from the one ahead", " 18 18 18 18 18 18 16 20", Look.areas(x, 0));
        Check.due("blow(0, 6, DRAW, 1)", 1, x.blow(0, 6, DRAW, 1));
        Check.same("to the last one", " 18 18 18 18 18 18 15 21", Look.areas(x, 0));
    }

    /** Exactly 3 times is no lap: 27 and 9 of 36. */
    private static void laps() {
        AnvilHouse x = forge(30);
        x.heat(0, 1300, 60);
        x.blow(0, 0, DRAW, 9);
        Check.same("3 times", " 9 27 18 18 18 18 18 18", Look.areas(x, 0));
        Check.due("no lap at 3 times", 0, x.billetIs(0, 5));
        x.blow(0, 0, DRAW, 1);
        Check.due("a lap when the neighbour is more", 1, x.billetIs(0, 5));
        x.blow(0, 4, UPSET, 9);
        Check.due("no lap at 3 times", 1, x.billetIs(0, 5));
        x.blow(0, 4, UPSET, 1);
        Check.due("a lap when the section is more", 2, x.billetIs(0, 5));
        x.blow(0, 1, UPSET, 1);
        Check.same("the two of the blow alone count", " 8 29 17 18 28 8 18 18", Look.areas(x, 0));
        Check.due("the two of the blow alone count", 2, x.billetIs(0, 5));
    }

    private static void lapsWithoutMoving() {
        AnvilHouse x = forge(30);
        x.heat(0, 1300, 60);
        x.cut(0, 0, 200);
        Check.due("a cut makes no lap", 0, x.billetIs(0, 5));
        Check.due("nothing to move", 0, x.blow(0, 0, DRAW, 3));
        Check.due("a lap all the same", 1, x.billetIs(0, 5));
        Check.due("the grain is less all the same", 52, x.billetIs(0, 4));
        Check.due("a minute goes by all the same", 1272, x.billetIs(0, 1));
        Check.due("nothing to move", 0, x.blow(0, 0, DRAW, 3));
        Check.due("one more lap", 2, x.billetIs(0, 5));
    }

    private static void grainOfBlows() {
        AnvilHouse x = forge(30);
        x.heat(0, 908, 36);
        Check.due("the core", 900, x.billetIs(0, 1));
        int grain = x.billetIs(0, 4);
        x.blow(0, 0, DRAW, 7);
        Check.due("less by the force at 900", grain - 7, x.billetIs(0, 4));
        x = forge(30);
        x.heat(0, 907, 36);
        Check.due("the core", 899, x.billetIs(0, 1));
        grain = x.billetIs(0, 4);
        x.blow(0, 0, DRAW, 7);
        Check.due("as it was at 899", grain, x.billetIs(0, 4));
        x = forge(30);
        x.heat(0, 1300, 60);
        int[] grains = {35, 15, 5, 5};
        for (int i = 0; i < grains.length; i++) {
            x.blow(0, 0, DRAW, 20);
            Check.due("the grain behind blow " + (i + 1), grains[i], x.billetIs(0, 4));
        }
    }

    private static void coldBlow() {
        AnvilHouse x = forge(30);
        x.heat(0, 708, 34);
        Check.due("the core", 700, x.billetIs(0, 1));
        Check.due("a blow at 700", 3, x.blow(0, 0, DRAW, 3));
        Check.due("no crack at 700", 0, x.billetIs(0, 6));
        AnvilHouse y = forge(30);
        y.heat(0, 707, 34);
        Check.due("the core", 699, y.billetIs(0, 1));
        y.cut(0, 0, 29);
        Check.due("a blow at 699", -1, y.blow(0, 0, DRAW, 3));
        Check.same("nothing else is done",
                "billet 0: 704 699 211 1 50 0 1 240 -1 areas 1 30 30 30 30 30 30 30"
                        + " hardness 0 0 0 0 0 0 0 0 balances paper -1",
                Look.billet(y, 0));
        Check.unchanged(y, "blow", () -> Check.notNow("blow", () -> y.blow(0, 1, UPSET, 1)));
        y.heat(0, 1300, 60);
        Check.due("a crack is for good", 1, y.billetIs(0, 6));
        Check.notNow("blow, warm again", () -> y.blow(0, 1, UPSET, 1));
    }

    private static void blowRefuses() {
        AnvilHouse x = forge(30);
        x.heat(0, 1300, 60);
        Check.unchanged(x, "blow", () -> {
            Check.noSuch("blow(-1, 0, DRAW, 1)", () -> x.blow(-1, 0, DRAW, 1));
            Check.noSuch("blow(1, 0, DRAW, 1)", () -> x.blow(1, 0, DRAW, 1));
            Check.noSuch("blow(0, -1, DRAW, 1)", () -> x.blow(0, -1, DRAW, 1));
            Check.noSuch("blow(0, 8, DRAW, 1)", () -> x.blow(0, 8, DRAW, 1));
            Check.noSuch("blow(0, 8, 2, 0)", () -> x.blow(0, 8, 2, 0));
            Check.outOfRange("blow(0, 0, -1, 1)", () -> x.blow(0, 0, -1, 1));
            Check.outOfRange("blow(0, 0, 2, 1)", () -> x.blow(0, 0, 2, 1));
            Check.outOfRange("blow(0, 0, DRAW, 0)", () -> x.blow(0, 0, DRAW, 0));
            Check.outOfRange("blow(0, 0, UPSET, 21)", () -> x.blow(0, 0, UPSET, 21));
        });
        AnvilHouse y = forge(30);
        y.blow(0, 0, DRAW, 1);
        Check.unchanged(y, "blow of a cracked billet", () -> {
            Check.notNow("blow", () -> y.blow(0, 0, DRAW, 1));
            Check.outOfRange("blow of no force", () -> y.blow(0, 0, DRAW, 0));
            Check.noSuch("blow on no section", () -> y.blow(0, 8, DRAW, 1));
        });
    }

    private static void cut() {
        AnvilHouse x = forge(200);
        Check.due("cut(0, 4, 1)", 1, x.cut(0, 4, 1));
        Check.due("cut(0, 4, 200)", 198, x.cut(0, 4, 200));
        Check.due("cut(0, 4, 200) again", 0, x.cut(0, 4, 200));
        Check.same("cut", " 200 200 200 200 1 200 200 200", Look.areas(x, 0));
        Check.due("the volume", 1401, x.billetIs(0, 2));
        Check.holds("it balances", x.balances(0));
        x.blow(0, 0, DRAW, 1);
        Check.due("a cracked one is cut, too", 5, x.cut(0, 0, 5));
        x.heat(0, 1300, 60);
        x.cut(0, 0, 5);
        Check.due("no minute goes by", 1292, x.billetIs(0, 1));
    }

    private static void cutRefuses() {
        AnvilHouse x = forge(200);
        Check.unchanged(x, "cut", () -> {
            Check.noSuch("cut(-1, 0, 1)", () -> x.cut(-1, 0, 1));
            Check.noSuch("cut(1, 0, 1)", () -> x.cut(1, 0, 1));
            Check.noSuch("cut(0, -1, 1)", () -> x.cut(0, -1, 1));
            Check.noSuch("cut(0, 8, 0)", () -> x.cut(0, 8, 0));
            Check.outOfRange("cut(0, 0, 0)", () -> x.cut(0, 0, 0));
            Check.outOfRange("cut(0, 0, -5)", () -> x.cut(0, 0, -5));
            Check.outOfRange("cut(0, 0, 201)", () -> x.cut(0, 0, 201));
        });
    }
}
