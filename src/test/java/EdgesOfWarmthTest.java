/**
 * The edges that 'Warmth', 'Blows' and the promises 8 to 11 name, a test for each sentence, which
 * stands above it.
 */
public final class EdgesOfWarmthTest {
    private static final int DRAW = AnvilHouse.DRAW;
    private static final int UPSET = AnvilHouse.UPSET;

    private EdgesOfWarmthTest() {
    }

    public static void main(String[] args) {
        countsAsOneHeat();
        furnaceAndMinutes();
        skinByFourTowardZero();
        coreBySixTowardZero();
        scaleByFiveMinutes();
        scaleByTheSkin();
        scaleOfAnAreaAboveOne();
        grainByTenMinutes();
        grainByTheCore();
        grainAtMost200();
        coolRoundsDown();
        coolLetsTheCoreFollow();
        minutesOfCool();
        mayNotBeHeatedAnyMore();
        forceOneToTwenty();
        kindOfBlow();
        cracksBelow700();
        drawSoThatOneIsLeft();
        upsetSoThatOneIsLeft();
        moreThanThreeTimes();
        lapIfNothingWasMoved();
        grainOfABlowAt900();
        grainFiveAtLeast();
        thenAMinuteGoesBy();
        noBlowWithACrack();
        cutSoThatOneIsLeft();
        muchOneTo200();
        Check.end();
    }

    private static void skinAndCore(String when, AnvilHouse x, int skin, int core) {
        Check.due("the skin " + when, skin, x.billetIs(0, 0));
        Check.due("the core " + when, core, x.billetIs(0, 1));
    }

    /** "To heat a billet in a furnace of a warmth for some minutes counts as a heat." */
    private static void countsAsOneHeat() {
        AnvilHouse x = Forge.of(30);
        x.heat(0, 200, 1);
        Check.due("one heat of one minute", 1, x.billetIs(0, 3));
        x.heat(0, 1300, 200);
        Check.due("one more of 200 minutes", 2, x.billetIs(0, 3));
        x.cool(0, 200);
        Check.due("cooling is no heat", 2, x.billetIs(0, 3));
    }

    /** "furnace: 200 to 1300, minutes: 1 to 200". */
    private static void furnaceAndMinutes() {
        AnvilHouse x = Forge.of(30);
        Check.due("heat(0, 200, 1)", 27, x.heat(0, 200, 1));
        skinAndCore("behind it", x, 65, 27);
        Check.due("heat(0, 1300, 1)", 84, x.heat(0, 1300, 1));
        skinAndCore("behind it", x, 373, 84);
        Check.due("heat(0, 1300, 200)", 1292, x.heat(0, 1300, 200));
        Check.due("heat(0, 200, 200)", 208, x.heat(0, 200, 200));
        skinAndCore("behind it", x, 203, 208);
        Check.outOfRange("a furnace of 199", () -> x.heat(0, 199, 1));
        Check.outOfRange("a furnace of 1301", () -> x.heat(0, 1301, 1));
        Check.outOfRange("0 minutes", () -> x.heat(0, 200, 0));
        Check.outOfRange("201 minutes", () -> x.heat(0, 200, 201));
        skinAndCore("behind what was refused", x, 203, 208);
        Check.due("heats behind what was refused", 4, x.billetIs(0, 3));
    }

    /** "the skin becomes more by what the furnace is more than it, by 4, .. toward 0, also below 0". */
    private static void skinByFourTowardZero() {
        int[] more = {0, 3, 4, 7, 8, -1, -3, -4, -7, -8};
        int[] due = {0, 0, 1, 1, 2, 0, 0, -1, -1, -2};
        for (int i = 0; i < more.length; i++) {
            AnvilHouse x = Forge.of(30);
            Forge.warm(x, 0, 592);
            Check.due("the skin", 597, x.billetIs(0, 0));
            x.heat(0, 597 + more[i], 1);
            Check.due("a furnace of " + more[i] + " more", 597 + due[i], x.billetIs(0, 0));
        }
    }

    /** "then the core by what the skin is more than it, by 6, both toward 0, also below 0": by the new skin. */
    private static void coreBySixTowardZero() {
        int[] skinMore = {0, 1, 6, 7, -5, -10, -11, -16, -17};
        int[] coreMore = {0, 1, 1, 2, 0, 0, -1, -1, -2};
        for (int i = 0; i < skinMore.length; i++) {
            AnvilHouse x = Forge.of(30);
            Forge.warm(x, 0, 592);
            skinAndCore("as it is", x, 597, 592);
            x.heat(0, 597 + 4 * skinMore[i], 1);
            skinAndCore("with a skin of " + skinMore[i] + " more", x, 597 + skinMore[i], 592 + coreMore[i]);
        }
    }

    /** "Behind each fifth minute of a heat, .. each section .. loses 1: that is scale." */
    private static void scaleByFiveMinutes() {
        int[] minutes = {1, 4, 5, 6, 9, 10, 14, 15, 199, 200};
        int[] scale = {0, 0, 1, 1, 1, 2, 2, 3, 39, 40};
        for (int i = 0; i < minutes.length; i++) {
            AnvilHouse x = Forge.of(100);
            Forge.warm(x, 0, 1292);
            int area = x.area(0, 0);
            x.heat(0, 1300, minutes[i]);
            int left = area - scale[i];
            Forge.areas("behind " + minutes[i] + " minutes", x, 0, left, left, left, left, left, left, left, left);
            Check.holds("it balances", x.balances(0));
        }
    }

    /** "if the skin is at least 800": as it is behind the fifth minute. */
    private static void scaleByTheSkin() {
        AnvilHouse x = Forge.of(30);
        x.heat(0, 1042, 5);
        Check.due("the skin", 799, x.billetIs(0, 0));
        Check.due("no scale at 799", 30, x.area(0, 0));
        x = Forge.of(30);
        x.heat(0, 1043, 5);
        Check.due("the skin", 800, x.billetIs(0, 0));
        Check.due("scale at 800", 29, x.area(0, 0));
        x = Forge.of(30);
        Forge.warm(x, 0, 1292);
        int area = x.area(0, 0);
        x.heat(0, 200, 5);
        Check.due("no scale when the skin fell below ahead of it", area, x.area(0, 0));
        x = Forge.of(30);
        x.heat(0, 802, 200);
        Check.due("the skin", 799, x.billetIs(0, 0));
        Check.due("no scale in 200 minutes at 799", 30, x.area(0, 0));
    }

    /** "each section of an area above 1 loses 1". */
    private static void scaleOfAnAreaAboveOne() {
        AnvilHouse x = Forge.of(30);
        Forge.warm(x, 0, 792);
        Forge.cutTo(x, 0, 1, 2, 3, 1, 2, 3, 2, 1);
        x.heat(0, 1300, 5);
        Forge.areas("behind scale", x, 0, 1, 1, 2, 1, 1, 2, 1, 1);
        Check.holds("it balances", x.balances(0));
        x.heat(0, 1300, 10);
        Forge.areas("behind more scale", x, 0, 1, 1, 1, 1, 1, 1, 1, 1);
        Check.holds("it balances", x.balances(0));
    }

    /** "Behind each tenth one, .. the grain is 1 more". */
    private static void grainByTenMinutes() {
        int[] minutes = {1, 5, 9, 10, 11, 19, 20, 199, 200};
        int[] more = {0, 0, 0, 1, 1, 1, 2, 19, 20};
        for (int i = 0; i < minutes.length; i++) {
            AnvilHouse x = Forge.of(100);
            Forge.warm(x, 0, 1292);
            int grain = x.billetIs(0, 4);
            x.heat(0, 1300, minutes[i]);
            Check.due("the grain behind " + minutes[i] + " minutes", grain + more[i], x.billetIs(0, 4));
        }
    }

    /** "if the core is at least 900": as it is behind the tenth minute. */
    private static void grainByTheCore() {
        AnvilHouse x = Forge.of(100);
        x.heat(0, 907, 200);
        Check.due("the core", 899, x.billetIs(0, 1));
        Check.due("no grain at 899", 50, x.billetIs(0, 4));
        x = Forge.of(100);
        Forge.warm(x, 0, 900);
        int grain = x.billetIs(0, 4);
        x.heat(0, 908, 10);
        Check.due("the core", 900, x.billetIs(0, 1));
        Check.due("grain at 900", grain + 1, x.billetIs(0, 4));
        x = Forge.of(100);
        Forge.warm(x, 0, 1000);
        grain = x.billetIs(0, 4);
        x.heat(0, 200, 10);
        Check.due("no grain when the core fell below ahead of it", grain, x.billetIs(0, 4));
    }

    /** "the grain is 1 more, at most 200". */
    private static void grainAtMost200() {
        AnvilHouse x = Forge.of(200);
        for (int heat = 0; heat < 7; heat++) {
            x.heat(0, 1300, 200);
        }
        Check.due("the grain", 189, x.billetIs(0, 4));
        x.heat(0, 1300, 109);
        Check.due("the grain", 199, x.billetIs(0, 4));
        x.heat(0, 1300, 20);
        Check.due("the most grain", 200, x.billetIs(0, 4));
    }

    /** "a minute makes the skin less by what it is more than 20, by 10, rounded down". */
    private static void coolRoundsDown() {
        AnvilHouse x = Forge.of(30);
        x.heat(0, 200, 1);
        for (int skin : new int[] {61, 57, 54, 51, 48, 46, 44, 42, 40, 38, 37, 36, 35, 34, 33, 32, 31, 30, 29, 29}) {
            x.cool(0, 1);
            Check.due("the skin, cooling from 65", skin, x.billetIs(0, 0));
        }
        x = Forge.of(30);
        x.heat(0, 204, 1);
        for (int skin : new int[] {62, 58, 55, 52, 49, 47, 45, 43, 41, 39, 38}) {
            x.cool(0, 1);
            Check.due("the skin, cooling from 66", skin, x.billetIs(0, 0));
        }
        x = Forge.of(30);
        x.cool(0, 200);
        skinAndCore("of a cold one stay", x, 20, 20);
    }

    /** "then the core as above": by the new skin, by 6, toward 0, also below 0. */
    private static void coolLetsTheCoreFollow() {
        AnvilHouse x = Forge.of(30);
        x.heat(0, 200, 1);
        skinAndCore("behind a minute of heat", x, 65, 27);
        int[] cores = {32, 36, 39, 41, 42, 42, 42, 42, 42, 42, 42, 41, 40, 39, 38, 37, 36, 35, 34, 34};
        for (int i = 0; i < cores.length; i++) {
            Check.due("the core behind minute " + (i + 1), cores[i], x.cool(0, 1));
        }
        skinAndCore("when no more changes", x, 29, 34);
        Check.due("the core stays 5 more than the skin", 34, x.cool(0, 200));
    }

    /** "cool .. minutes: 1 to 200". */
    private static void minutesOfCool() {
        AnvilHouse x = Forge.of(30);
        Forge.warm(x, 0, 1292);
        Check.due("cool(0, 1)", 1272, x.cool(0, 1));
        Check.outOfRange("cool(0, 0)", () -> x.cool(0, 0));
        Check.outOfRange("cool(0, 201)", () -> x.cool(0, 201));
        skinAndCore("behind what was refused", x, 1170, 1272);
        AnvilHouse y = Forge.of(30);
        Forge.warm(y, 0, 1292);
        for (int minute = 0; minute < 201; minute++) {
            y.cool(0, 1);
        }
        Check.due("200 minutes at once are 200 times one", y.billetIs(0, 1), x.cool(0, 200));
    }

    /** "IllegalStateException if it may not be heated any more". */
    private static void mayNotBeHeatedAnyMore() {
        AnvilHouse x = Forge.of(30, 30);
        x.steel(0, 2, 60, 4);
        x.heat(0, 200, 1);
        x.heat(0, 200, 1);
        Check.notNow("a third heat of two", () -> x.heat(0, 200, 1));
        skinAndCore("behind it", x, 98, 38);
        x.heat(1, 200, 1);
        Check.due("the heats of the other one", 1, x.billetIs(1, 3));
        x.steel(0, 1, 60, 4);
        Check.notNow("a heat of one that was heated more often", () -> x.heat(0, 200, 1));
        Check.notNow("a second heat of one", () -> x.heat(1, 200, 1));
    }

    /** "A blow on a section has a force, 1 to 20." */
    private static void forceOneToTwenty() {
        AnvilHouse x = Forge.of(100);
        Forge.warm(x, 0, 1292);
        Check.due("a force of 1", 1, x.blow(0, 0, DRAW, 1));
        Check.due("a force of 20", 20, x.blow(0, 0, DRAW, 20));
        Forge.areas("behind them", x, 0, 67, 109, 88, 88, 88, 88, 88, 88);
        Check.outOfRange("a force of 0", () -> x.blow(0, 0, DRAW, 0));
        Check.outOfRange("a force of -1", () -> x.blow(0, 0, DRAW, -1));
        Check.outOfRange("a force of 21", () -> x.blow(0, 0, UPSET, 21));
        Forge.areas("behind what was refused", x, 0, 67, 109, 88, 88, 88, 88, 88, 88);
    }

    /** "kind: DRAW or UPSET". */
    private static void kindOfBlow() {
        AnvilHouse x = Forge.of(100);
        Forge.warm(x, 0, 1292);
        Check.outOfRange("the kind -1", () -> x.blow(0, 0, -1, 1));
        Check.outOfRange("the kind 2", () -> x.blow(0, 0, 2, 1));
        Check.due("DRAW", 2, x.blow(0, 0, 0, 2));
        Check.due("UPSET", 5, x.blow(0, 0, 1, 5));
        Forge.areas("behind both", x, 0, 91, 85, 88, 88, 88, 88, 88, 88);
    }

    /** "With a core below 700 the billet cracks, and nothing else is done."; "NONE if it cracks". */
    private static void cracksBelow700() {
        AnvilHouse x = Forge.of(30);
        Forge.warm(x, 0, 700);
        Check.due("a blow at 700", 1, x.blow(0, 0, UPSET, 1));
        Check.due("no crack", 0, x.billetIs(0, 6));
        AnvilHouse y = Forge.of(30);
        Forge.warm(y, 0, 699);
        Forge.cutTo(y, 0, 30, 0, 1);
        String before = Look.billet(y, 0);
        Check.due("a blow at 699", AnvilHouse.NONE, y.blow(0, 0, UPSET, 1));
        Check.same("the crack alone", before.replace(" 50 0 0 240", " 50 0 1 240"), Look.billet(y, 0));
        AnvilHouse z = Forge.of(30);
        Check.due("a blow at 20", AnvilHouse.NONE, z.blow(0, 0, DRAW, 1));
    }

    /** "To DRAW moves so much of the area of the section to its neighbour, .. so that 1 is left". */
    private static void drawSoThatOneIsLeft() {
        int[] area = {1, 2, 3, 19, 20, 21, 22};
        int[] moved = {0, 1, 2, 18, 19, 20, 20};
        for (int i = 0; i < area.length; i++) {
            AnvilHouse x = Forge.of(60);
            Forge.warm(x, 0, 1292);
            Forge.cutTo(x, 0, 30, 3, area[i]);
            Check.due("drawn of " + area[i], moved[i], x.blow(0, 3, DRAW, 20));
            int left = area[i] - moved[i];
            Forge.areas("behind it", x, 0, 30, 30, 30, left, 30 + moved[i], 30, 30, 30);
        }
    }

    /** "to UPSET so much of its neighbour to it, at most so that 1 is left". */
    private static void upsetSoThatOneIsLeft() {
        int[] area = {1, 2, 3, 19, 20, 21, 22};
        int[] moved = {0, 1, 2, 18, 19, 20, 20};
        for (int i = 0; i < area.length; i++) {
            AnvilHouse x = Forge.of(60);
            Forge.warm(x, 0, 1292);
            Forge.cutTo(x, 0, 30, 4, area[i]);
            Check.due("upset of " + area[i], moved[i], x.blow(0, 3, UPSET, 20));
            int left = area[i] - moved[i];
            Forge.areas("behind it", x, 0, 30, 30, 30, 30 + moved[i], left, 30, 30, 30);
        }
    }

    /** "if one of these two sections is more than 3 times the other one, there is one lap more". */
    private static void moreThanThreeTimes() {
        for (int section = 0; section < 8; section++) {
            int neighbour = section < 7 ? section + 1 : 6;
            lapsOf(section, neighbour, DRAW, 11, 29, 0);
            lapsOf(section, neighbour, DRAW, 11, 30, 1);
            lapsOf(section, neighbour, DRAW, 31, 9, 0);
            lapsOf(section, neighbour, DRAW, 32, 9, 1);
            lapsOf(section, neighbour, UPSET, 29, 11, 0);
            lapsOf(section, neighbour, UPSET, 30, 11, 1);
            lapsOf(section, neighbour, UPSET, 9, 31, 0);
            lapsOf(section, neighbour, UPSET, 9, 32, 1);
        }
    }

    /** A blow of a force of 1; the other sections have 1 alone, and count nothing. */
    private static void lapsOf(int section, int neighbour, int kind, int area, int other, int due) {
        AnvilHouse x = Forge.of(60);
        Forge.warm(x, 0, 1292);
        int[] areas = {1, 1, 1, 1, 1, 1, 1, 1};
        areas[section] = area;
        areas[neighbour] = other;
        Forge.cutTo(x, 0, areas);
        Check.due("moved", 1, x.blow(0, section, kind, 1));
        Check.due("laps of " + area + " and " + other, due, x.billetIs(0, 5));
    }

    /** "Then, also if nothing was moved". */
    private static void lapIfNothingWasMoved() {
        int[] other = {3, 4};
        for (int laps = 0; laps <= 1; laps++) {
            AnvilHouse x = Forge.of(60);
            Forge.warm(x, 0, 1292);
            Forge.cutTo(x, 0, 1, other[laps], 3, 3, 3, 3, other[laps], 1);
            Check.due("nothing is moved", 0, x.blow(0, 0, DRAW, 20));
            Check.due("laps of 1 and " + other[laps], laps, x.billetIs(0, 5));
            Check.due("nothing is moved", 0, x.blow(0, 7, DRAW, 1));
            Check.due("laps of 1 and " + other[laps] + ", again", 2 * laps, x.billetIs(0, 5));
        }
    }

    /** "With a core of at least 900 the grain is less by the force". */
    private static void grainOfABlowAt900() {
        AnvilHouse x = Forge.of(60);
        Forge.warm(x, 0, 900);
        int grain = x.billetIs(0, 4);
        x.blow(0, 0, DRAW, 13);
        Check.due("the grain of a blow at 900", grain - 13, x.billetIs(0, 4));
        Check.holds("the core fell below 900 by its minute", x.billetIs(0, 1) < 900);
        x.blow(0, 0, DRAW, 13);
        Check.due("the grain of the next one", grain - 13, x.billetIs(0, 4));
        AnvilHouse y = Forge.of(60);
        Forge.warm(y, 0, 899);
        y.blow(0, 0, DRAW, 13);
        Check.due("the grain of a blow at 899", 50, y.billetIs(0, 4));
    }

    /** "the grain is less by the force, 5 at least". */
    private static void grainFiveAtLeast() {
        int[] left = {27, 26, 25, 24, 6, 5};
        int[] due = {7, 6, 5, 5, 5, 5};
        for (int i = 0; i < left.length; i++) {
            AnvilHouse x = Forge.of(200);
            Forge.warm(x, 0, 1292);
            while (x.billetIs(0, 4) > left[i]) {
                x.blow(0, 0, DRAW, Math.min(20, x.billetIs(0, 4) - left[i]));
            }
            Check.due("the grain", left[i], x.billetIs(0, 4));
            Check.holds("warm enough still", x.billetIs(0, 1) >= 900);
            x.blow(0, 0, DRAW, 20);
            Check.due("the grain behind a blow of 20", due[i], x.billetIs(0, 4));
        }
    }

    /** "Then a minute goes by for it.": and for no other one. */
    private static void thenAMinuteGoesBy() {
        AnvilHouse x = Forge.of(60, 60);
        Forge.warm(x, 0, 1292);
        Forge.warm(x, 1, 1292);
        x.blow(0, 0, DRAW, 1);
        skinAndCore("behind a blow", x, 1170, 1272);
        Check.due("the core of the other one", 1292, x.billetIs(1, 1));
        AnvilHouse y = Forge.of(60);
        Forge.warm(y, 0, 700);
        Check.due("a blow at 700", 1, y.blow(0, 0, DRAW, 1));
        Check.holds("the core fell below 700 by its minute", y.billetIs(0, 1) < 700);
        Check.due("no crack by that", 0, y.billetIs(0, 6));
        Check.due("the next one cracks it", AnvilHouse.NONE, y.blow(0, 0, DRAW, 1));
    }

    /** "IllegalStateException if it has a crack". */
    private static void noBlowWithACrack() {
        AnvilHouse x = Forge.of(60, 60);
        x.blow(0, 0, DRAW, 1);
        Check.notNow("a blow with a crack", () -> x.blow(0, 0, DRAW, 1));
        Forge.warm(x, 0, 1292);
        Check.notNow("a blow with a crack, warm", () -> x.blow(0, 7, UPSET, 20));
        Forge.warm(x, 1, 1292);
        Check.due("a blow on the other one", 20, x.blow(1, 7, UPSET, 20));
    }

    /** "To cut a section takes so much of it away, at most so that 1 is left." */
    private static void cutSoThatOneIsLeft() {
        int[] much = {28, 29, 30, 31, 200};
        int[] taken = {28, 29, 29, 29, 29};
        for (int i = 0; i < much.length; i++) {
            AnvilHouse x = Forge.of(30);
            Check.due("cut(0, 7, " + much[i] + ")", taken[i], x.cut(0, 7, much[i]));
            Forge.areas("behind it", x, 0, 30, 30, 30, 30, 30, 30, 30, 30 - taken[i]);
            Check.due("the volume", 240 - taken[i], x.billetIs(0, 2));
        }
        AnvilHouse x = Forge.of(2);
        Check.due("one of 2", 1, x.cut(0, 0, 1));
        Check.due("none of 1", 0, x.cut(0, 0, 1));
        Check.due("the area", 1, x.area(0, 0));
    }

    /** "much: 1 to 200". */
    private static void muchOneTo200() {
        AnvilHouse x = Forge.of(200);
        Forge.warm(x, 0, 792);
        x.blow(0, 0, UPSET, 20);
        Check.due("the area", 220, x.area(0, 0));
        Check.outOfRange("a cut of 201", () -> x.cut(0, 0, 201));
        Check.outOfRange("a cut of 0", () -> x.cut(0, 0, 0));
        Check.outOfRange("a cut of -1", () -> x.cut(0, 0, -1));
        Check.due("the area behind what was refused", 220, x.area(0, 0));
        Check.due("a cut of 200", 200, x.cut(0, 0, 200));
        Check.due("a cut of 1", 1, x.cut(0, 0, 1));
        Check.due("the area", 19, x.area(0, 0));
    }
}
