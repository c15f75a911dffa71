/**
 * The edges that 'Quenching, tempering', what 'Papers, plans' says of papers, and the promises 16
 * to 20 name, a test for each sentence, which stands above it.
 */
public final class EdgesOfQuenchingTest {
    private static final int OIL = AnvilHouse.OIL;
    private static final int WATER = AnvilHouse.WATER;

    private EdgesOfQuenchingTest() {
    }

    public static void main(String[] args) {
        aSetNotEmpty();
        oneOfTheSetIsNotThere();
        mediumOilOrWater();
        coreOfAtLeast800();
        andNoCrack();
        twentyLoads();
        areaByTenInOil();
        areaByTwentyInWater();
        nineAtMost();
        hardnessZeroAtLeast();
        moreThanThreeTimesItsNeighbour();
        lessThanAThirdOfIt();
        theEndsAreNoNeighbours();
        skinAndCoreAre20();
        quenchedAnew();
        temper100To700();
        temperRoundsDown();
        temperZeroAtLeast();
        theGreatestTemperAlone();
        leastOfTheSections();
        heatMakesAllHardnessZero();
        withoutAQuench();
        notQuenchedSinceTheLatestHeat();
        testPieceForGood();
        noPartForGood();
        paperZeroTo70();
        paperIsOfALoad();
        paperWithoutCrackOrLap();
        paperAsHardAsIsAsked();
        paperOfMeltAndLoad();
        Check.end();
    }

    /** "billets: a set, not empty". */
    private static void aSetNotEmpty() {
        AnvilHouse x = Forge.of(30);
        Forge.warm(x, 0, 800);
        Check.outOfRange("an empty set", () -> x.quench(0, OIL));
        Check.outOfRange("an empty set without billets", () -> new AnvilHouse().quench(0, OIL));
        Check.due("a set of one", 0, x.quench(1, OIL));
    }

    /** "IllegalArgumentException if one of the set is not there": up to the highest bit. */
    private static void oneOfTheSetIsNotThere() {
        for (int billets = 0; billets <= 12; billets++) {
            AnvilHouse x = Forge.of();
            for (int billet = 0; billet < billets; billet++) {
                x.billet(0, 2);
                Forge.warm(x, billet, 800);
            }
            int all = (1 << billets) - 1;
            for (int bit = billets; bit < 32; bit++) {
                int missing = 1 << bit;
                Check.outOfRange("the billet " + bit + " of " + billets, () -> x.quench(missing, OIL));
                Check.outOfRange("it and all others", () -> x.quench(missing | all, OIL));
            }
            Check.outOfRange("all bits", () -> x.quench(-1, OIL));
            if (billets > 0) {
                Check.due("all that are there", 0, x.quench(all, OIL));
                Check.due("the load of the first one", 0, x.billetIs(0, 8));
                Check.due("the load of the last one", 0, x.billetIs(billets - 1, 8));
            }
        }
    }

    /** "medium: OIL or WATER". */
    private static void mediumOilOrWater() {
        AnvilHouse x = Forge.of(30);
        Forge.warm(x, 0, 800);
        for (int medium : new int[] {-1, 2, Integer.MIN_VALUE, Integer.MAX_VALUE}) {
            Check.outOfRange("the medium " + medium, () -> x.quench(1, medium));
        }
        Check.due("in OIL", 0, x.quench(1, 0));
        Forge.warm(x, 0, 800);
        Check.due("in WATER", 1, x.quench(1, 1));
    }

    /** "each has to have a core of at least 800". */
    private static void coreOfAtLeast800() {
        AnvilHouse x = Forge.of(30, 30, 30);
        Forge.warm(x, 0, 800);
        Forge.warm(x, 1, 799);
        Forge.warm(x, 2, 800);
        Check.notNow("799 alone", () -> x.quench(2, OIL));
        Check.notNow("799 as the last one", () -> x.quench(3, OIL));
        Check.notNow("799 as the first one", () -> x.quench(6, OIL));
        Check.notNow("799 among them", () -> x.quench(7, OIL));
        Check.due("the core of one that was warm enough", 800, x.billetIs(0, 1));
        Check.due("its load", -1, x.billetIs(0, 8));
        Check.due("800 and 800", 0, x.quench(5, OIL));
    }

    /** "and no crack". */
    private static void andNoCrack() {
        AnvilHouse x = Forge.of(30, 30);
        x.blow(1, 0, AnvilHouse.DRAW, 1);
        Forge.warm(x, 0, 800);
        Forge.warm(x, 1, 800);
        Check.notNow("a crack alone", () -> x.quench(2, OIL));
        Check.notNow("a crack among them", () -> x.quench(3, WATER));
        Check.due("the core of the one without", 800, x.billetIs(0, 1));
        Check.due("the one without", 0, x.quench(1, OIL));
    }

    /** "Loads are numbered from 0, at most 20."; "or there are 20 loads". */
    private static void twentyLoads() {
        AnvilHouse x = Forge.of(200, 200, 200, 200);
        for (int load = 0; load < 20; load++) {
            Forge.warm(x, load % 4, 800);
            Check.due("a load", load, x.quench(1 << load % 4, OIL));
            Check.due("its load", load, x.billetIs(load % 4, 8));
        }
        Forge.warm(x, 0, 800);
        Forge.warm(x, 1, 800);
        Check.notNow("the 21st load", () -> x.quench(3, OIL));
        Check.due("the core behind it", 800, x.billetIs(0, 1));
        Check.due("the load behind it", -1, x.billetIs(0, 8));
        Check.outOfRange("a 21st load of no medium", () -> x.quench(3, 2));
        Check.due("the last load", 19, x.billetIs(3, 8));
    }

    /** "the number is its area, .. by 10 in oil, .. rounded down". */
    private static void areaByTenInOil() {
        AnvilHouse x = Forge.of(200, 200);
        x.steel(0, 9, 60, 1);
        Forge.warm(x, 0, 800);
        Forge.warm(x, 1, 800);
        Forge.cutTo(x, 0, 1, 9, 10, 11, 19, 20, 29, 30);
        Forge.cutTo(x, 1, 39, 40, 49, 50, 79, 80, 89, 90);
        x.quench(3, OIL);
        Forge.hardness("in oil", x, 0, 60, 60, 59, 59, 59, 58, 58, 57);
        Forge.hardness("in oil", x, 1, 57, 56, 56, 55, 53, 52, 52, 51);
    }

    /** "by 20 in water, rounded down". */
    private static void areaByTwentyInWater() {
        AnvilHouse x = Forge.of(200, 200);
        x.steel(0, 9, 60, 1);
        Forge.warm(x, 0, 800);
        Forge.warm(x, 1, 800);
        Forge.cutTo(x, 0, 1, 10, 19, 20, 21, 39, 40, 59);
        Forge.cutTo(x, 1, 60, 79, 80, 99, 100, 159, 160, 180);
        x.quench(3, WATER);
        Forge.hardness("in water", x, 0, 60, 60, 60, 59, 59, 59, 58, 58);
        Forge.hardness("in water", x, 1, 57, 57, 56, 56, 55, 53, 52, 51);
    }

    /** "9 at most". */
    private static void nineAtMost() {
        AnvilHouse x = Forge.of(200, 200);
        x.steel(0, 9, 60, 1);
        Forge.warm(x, 0, 1292);
        Forge.warm(x, 1, 1292);
        for (int billet = 0; billet < 2; billet++) {
            x.blow(billet, 0, AnvilHouse.UPSET, 20);
            Forge.cutTo(x, billet, 208, 168, 99, 100, 110, 179, 180, 188);
        }
        x.quench(1, OIL);
        x.quench(2, WATER);
        Forge.hardness("in oil", x, 0, 51, 51, 51, 51, 51, 51, 51, 51);
        Forge.hardness("in water", x, 1, 51, 52, 56, 55, 55, 52, 51, 51);
    }

    /** "The hardness of a section is that of its steel, less the drop times a number, 0 at least". */
    private static void hardnessZeroAtLeast() {
        int[] hard = {29, 28, 27, 26, 20};
        int[] due = {2, 1, 0, 0, 0};
        for (int i = 0; i < hard.length; i++) {
            AnvilHouse x = Forge.of(60);
            x.steel(0, 9, hard[i], 9);
            Forge.warm(x, 0, 800);
            Forge.cutTo(x, 0, 9, 5, 30);
            x.quench(1, OIL);
            Check.due("the hardness, " + hard[i] + " less 27", due[i], x.hardness(0, 5));
            Check.due("the hardness without a drop", hard[i], x.hardness(0, 4));
        }
    }

    /** "In water a billet cracks by that if a section is more than 3 times its neighbour". */
    private static void moreThanThreeTimesItsNeighbour() {
        for (int section = 0; section < 8; section++) {
            crackOf(30, section, 90, WATER, 0);
            crackOf(30, section, 91, WATER, 1);
            crackOf(30, section, 91, OIL, 0);
        }
    }

    /** "or less than a third of it". */
    private static void lessThanAThirdOfIt() {
        for (int section = 0; section < 8; section++) {
            crackOf(90, section, 30, WATER, 0);
            crackOf(90, section, 29, WATER, 1);
            crackOf(90, section, 29, OIL, 0);
            crackOf(89, section, 30, WATER, 0);
            crackOf(91, section, 30, WATER, 1);
        }
    }

    private static void crackOf(int all, int section, int area, int medium, int due) {
        AnvilHouse x = Forge.of(120);
        Forge.warm(x, 0, 800);
        Forge.cutTo(x, 0, all, section, area);
        x.quench(1, medium);
        Check.due("the crack of " + area + " at " + section + " among " + all, due, x.billetIs(0, 6));
        Check.due("its load all the same", 0, x.billetIs(0, 8));
    }

    /** The sections 0 and 7 are no neighbours. */
    private static void theEndsAreNoNeighbours() {
        AnvilHouse x = Forge.of(120, 120);
        Forge.warm(x, 0, 800);
        Forge.warm(x, 1, 800);
        Forge.cutTo(x, 0, 100, 90, 80, 70, 60, 50, 40, 30);
        Forge.cutTo(x, 1, 30, 40, 50, 60, 70, 80, 90, 100);
        x.quench(3, WATER);
        Check.due("falling to less than a third", 0, x.billetIs(0, 6));
        Check.due("rising to more than 3 times", 0, x.billetIs(1, 6));
    }

    /** "Skin and core are 20 then." */
    private static void skinAndCoreAre20() {
        AnvilHouse x = Forge.of(200, 200, 200);
        Forge.warm(x, 0, 800);
        Forge.warm(x, 1, 1292);
        Forge.warm(x, 2, 1292);
        x.quench(3, WATER);
        for (int billet = 0; billet < 2; billet++) {
            Check.due("the skin", 20, x.billetIs(billet, 0));
            Check.due("the core", 20, x.billetIs(billet, 1));
        }
        Check.due("the skin of one that was not in it", 1297, x.billetIs(2, 0));
        Check.due("the core of one that was not in it", 1292, x.billetIs(2, 1));
        Check.notNow("a load of the same ones at once", () -> x.quench(3, WATER));
    }

    /** "What is quenched anew has the hardness by that; tempers of then are forgotten." */
    private static void quenchedAnew() {
        AnvilHouse x = Forge.of(60);
        Forge.warm(x, 0, 800);
        Forge.cutTo(x, 0, 40, 0, 40);
        x.quench(1, OIL);
        Check.due("tempered", 14, x.temper(0, 700));
        Forge.warm(x, 0, 800);
        Forge.cutTo(x, 0, 30, 0, 20);
        Check.due("anew", 1, x.quench(1, OIL));
        Forge.hardness("anew", x, 0, 52, 48, 48, 48, 48, 48, 48, 48);
        Check.due("tempered anew, by less", 47, x.temper(0, 120));
    }

    /** A billet with this hardness at each section. */
    private static AnvilHouse hard(int hardness) {
        AnvilHouse x = Forge.of(30);
        x.steel(0, 9, hardness, 4);
        Forge.warm(x, 0, 800);
        Forge.cutTo(x, 0, 9, 0, 9);
        x.quench(1, OIL);
        return x;
    }

    /** "To temper at 100 to 700". */
    private static void temper100To700() {
        AnvilHouse x = hard(60);
        for (int warmth : new int[] {99, 701, -1, Integer.MIN_VALUE, Integer.MAX_VALUE}) {
            Check.outOfRange("a temper at " + warmth, () -> x.temper(0, warmth));
        }
        Check.due("the hardness behind what was refused", 60, x.hardness(0, 0));
        Check.due("a temper at 100", 60, x.temper(0, 100));
        Check.due("a temper at 700", 30, x.temper(0, 700));
    }

    /** "takes from the hardness of each section what is above 100, by 20, rounded down". */
    private static void temperRoundsDown() {
        int[] warmths = {100, 101, 119, 120, 121, 139, 140, 399, 400, 699, 700};
        int[] taken = {0, 0, 0, 1, 1, 1, 2, 14, 15, 29, 30};
        for (int i = 0; i < warmths.length; i++) {
            AnvilHouse x = hard(60);
            int left = 60 - taken[i];
            Check.due("a temper at " + warmths[i], left, x.temper(0, warmths[i]));
            Forge.hardness("behind it", x, 0, left, left, left, left, left, left, left, left);
        }
    }

    /** "takes .. by 20, rounded down, 0 at least". */
    private static void temperZeroAtLeast() {
        int[] hard = {32, 31, 30, 29, 20};
        int[] due = {2, 1, 0, 0, 0};
        for (int i = 0; i < hard.length; i++) {
            AnvilHouse x = hard(hard[i]);
            Check.due("a temper at 700 of " + hard[i], due[i], x.temper(0, 700));
            Check.due("the hardness of the last section", due[i], x.hardness(0, 7));
        }
    }

    /** "of several tempers that with the greatest warmth alone counts". */
    private static void theGreatestTemperAlone() {
        AnvilHouse x = hard(60);
        Check.due("300", 50, x.temper(0, 300));
        Check.due("300 again", 50, x.temper(0, 300));
        Check.due("1 less", 50, x.temper(0, 299));
        Check.due("the least one", 50, x.temper(0, 100));
        Check.due("20 more", 49, x.temper(0, 320));
        Check.due("the greatest one", 30, x.temper(0, 700));
        Check.due("the least one", 30, x.temper(0, 100));
    }

    /** "Returns the least hardness of its sections then.": each section can have it. */
    private static void leastOfTheSections() {
        for (int section = 0; section < 8; section++) {
            AnvilHouse x = Forge.of(60);
            Forge.warm(x, 0, 800);
            Forge.cutTo(x, 0, 9, section, 30);
            x.quench(1, OIL);
            Check.due("test, with " + section + " as the softest one", 48, x.test(0));
            Check.due("temper", 38, x.temper(0, 300));
        }
    }

    /** "A heat makes all hardness 0, tempers are forgotten, and the billet is of no load any more". */
    private static void heatMakesAllHardnessZero() {
        AnvilHouse x = hard(60);
        x.heat(0, 200, 1);
        Forge.hardness("behind a minute", x, 0, 0, 0, 0, 0, 0, 0, 0, 0);
        Check.due("its load", AnvilHouse.NONE, x.billetIs(0, 8));
        AnvilHouse y = hard(60);
        y.temper(0, 300);
        y.steel(0, 1, 60, 4);
        Check.notNow("a heat too many", () -> y.heat(0, 200, 1));
        Forge.hardness("behind a heat that was refused", y, 0, 50, 50, 50, 50, 50, 50, 50, 50);
        Check.due("its load", 0, y.billetIs(0, 8));
        y.cool(0, 200);
        Check.due("cooling leaves the hardness", 50, y.hardness(0, 0));
    }

    /** "without a quench it is 0". */
    private static void withoutAQuench() {
        AnvilHouse x = Forge.of(30, 30);
        Forge.hardness("of a new one", x, 0, 0, 0, 0, 0, 0, 0, 0, 0);
        Forge.warm(x, 0, 800);
        Forge.warm(x, 1, 800);
        x.quench(2, OIL);
        Forge.hardness("of one that is warm", x, 0, 0, 0, 0, 0, 0, 0, 0, 0);
    }

    /** "IllegalStateException if it was not quenched since its latest heat", for temper and test. */
    private static void notQuenchedSinceTheLatestHeat() {
        AnvilHouse x = Forge.of(30);
        Check.notNow("a temper of a new one", () -> x.temper(0, 100));
        Check.notNow("a test of a new one", () -> x.test(0));
        Forge.warm(x, 0, 800);
        Check.notNow("a temper of a warm one", () -> x.temper(0, 100));
        Check.notNow("a test of a warm one", () -> x.test(0));
        x.quench(1, OIL);
        Check.due("a temper of a quenched one, of 21", 52, x.temper(0, 100));
        x.heat(0, 200, 1);
        Check.notNow("a temper behind a heat", () -> x.temper(0, 100));
        Check.notNow("a test behind a heat", () -> x.test(0));
        x.heat(0, 808, 60);
        x.quench(1, OIL);
        Check.due("a test of one that is quenched anew, of 12 now", 56, x.test(0));
    }

    /** "there is a test piece of its melt and its load then, for good". */
    private static void testPieceForGood() {
        AnvilHouse x = Forge.of(30, 30);
        Forge.warm(x, 0, 800);
        Forge.warm(x, 1, 800);
        x.quench(3, OIL);
        Check.due("no paper ahead of it", AnvilHouse.NONE, x.paper(0, 0));
        x.test(1);
        Check.due("a paper behind it", 0, x.paper(0, 0));
        Forge.warm(x, 1, 800);
        Check.due("a paper when it is of no load any more", 0, x.paper(0, 0));
        x.quench(2, WATER);
        x.test(1);
        Check.due("a paper when it is of another load", 0, x.paper(0, 0));
        x.blow(1, 0, AnvilHouse.DRAW, 1);
        Check.due("a paper when it has a crack", 0, x.paper(0, 0));
    }

    /** "and the billet is no part any more, for good, too". */
    private static void noPartForGood() {
        AnvilHouse x = Forge.of(30, 30);
        Forge.warm(x, 0, 800);
        x.quench(1, OIL);
        x.test(0);
        Check.due("no paper for itself", AnvilHouse.NONE, x.paper(0, 0));
        Forge.warm(x, 0, 800);
        Forge.warm(x, 1, 800);
        x.quench(3, OIL);
        x.test(1);
        Check.due("no paper in another load", AnvilHouse.NONE, x.paper(0, 0));
        AnvilHouse y = Forge.of(30, 30, 30);
        Check.notNow("a test too early", () -> y.test(0));
        for (int billet = 0; billet < 3; billet++) {
            Forge.warm(y, billet, 800);
        }
        y.quench(7, OIL);
        y.test(2);
        Check.due("one with a refused test is a part", 0, y.paper(0, 0));
        y.test(1);
        Check.due("and one besides two test pieces, too", 0, y.paper(0, 0));
    }

    /** "least: 0 to 70". */
    private static void paperZeroTo70() {
        AnvilHouse x = Forge.of(30, 30);
        x.steel(0, 9, 70, 0);
        Forge.warm(x, 0, 800);
        Forge.warm(x, 1, 800);
        x.quench(3, OIL);
        x.test(1);
        Check.due("70 of 70", 0, x.paper(0, 70));
        Check.due("0 of 70", 0, x.paper(0, 0));
        for (int least : new int[] {-1, 71, Integer.MIN_VALUE, Integer.MAX_VALUE}) {
            Check.outOfRange("a paper for " + least, () -> x.paper(0, least));
            Check.outOfRange("a paper for " + least + " without a part", () -> x.paper(1, least));
        }
        AnvilHouse y = Forge.of(200, 200);
        y.steel(0, 9, 20, 9);
        Forge.warm(y, 0, 800);
        Forge.warm(y, 1, 800);
        y.quench(3, OIL);
        y.test(1);
        Check.due("0 of 0", 0, y.paper(0, 0));
        Check.due("1 of 0", AnvilHouse.NONE, y.paper(0, 1));
    }

    /** "if it .. is of a load": of the load 0, too, and of the load 19. */
    private static void paperIsOfALoad() {
        AnvilHouse x = Forge.of(200, 200, 200, 200);
        for (int load = 0; load < 20; load++) {
            boolean end = load == 0 || load == 19;
            int first = end ? 0 : 2 + load % 2;
            Forge.warm(x, first, 800);
            if (end) {
                Forge.warm(x, 1, 800);
            }
            x.quench(end ? 3 : 1 << first, OIL);
            if (end) {
                Check.due("no paper without a test piece in the load " + load, AnvilHouse.NONE, x.paper(0, 0));
                x.test(1);
                Check.due("a paper in the load " + load, 0, x.paper(0, 0));
            }
        }
        x.heat(0, 200, 1);
        Check.due("of no load any more", AnvilHouse.NONE, x.paper(0, 0));
    }

    /** "has no crack and no lap". */
    private static void paperWithoutCrackOrLap() {
        AnvilHouse x = Forge.of(60, 60, 60);
        for (int billet = 0; billet < 3; billet++) {
            Forge.warm(x, billet, 1292);
        }
        Forge.cutTo(x, 0, 11, 29, 20, 20, 20, 20, 20, 20);
        Forge.cutTo(x, 1, 11, 30, 20, 20, 20, 20, 20, 20);
        x.blow(0, 0, AnvilHouse.DRAW, 1);
        x.blow(1, 0, AnvilHouse.DRAW, 1);
        Check.due("no lap", 0, x.billetIs(0, 5));
        Check.due("one lap", 1, x.billetIs(1, 5));
        x.quench(7, OIL);
        x.test(2);
        Check.due("a paper without a lap", 0, x.paper(0, 0));
        Check.due("none with one", AnvilHouse.NONE, x.paper(1, 0));
        x.blow(0, 0, AnvilHouse.DRAW, 1);
        Check.due("none with a crack", AnvilHouse.NONE, x.paper(0, 0));
    }

    /** "each section is at least as hard as is asked". */
    private static void paperAsHardAsIsAsked() {
        for (int section = 0; section < 8; section++) {
            AnvilHouse x = Forge.of(60, 60);
            Forge.warm(x, 0, 800);
            Forge.warm(x, 1, 800);
            Forge.cutTo(x, 0, 9, section, 30);
            x.quench(3, OIL);
            x.test(1);
            Check.due("as hard as the softest one", 0, x.paper(0, 48));
            Check.due("harder by 1", AnvilHouse.NONE, x.paper(0, 49));
            x.temper(0, 140);
            Check.due("as hard as it is tempered", 0, x.paper(0, 46));
            Check.due("harder by 1", AnvilHouse.NONE, x.paper(0, 47));
        }
    }

    /** "and there is a test piece of the same melt and of its load: its melt": both in one. */
    private static void paperOfMeltAndLoad() {
        AnvilHouse x = Forge.of();
        for (int melt = 1; melt < 20; melt++) {
            Check.due("a melt", melt, x.melt(3));
        }
        int[] melts = {0, 19, 0, 19, 0, 19};
        for (int billet = 0; billet < melts.length; billet++) {
            x.billet(melts[billet], 30);
            x.heat(billet, 808, 60);
        }
        x.quench(1 + 2 + 16, OIL);
        x.quench(4 + 8 + 32, OIL);
        x.test(4);
        Check.due("the melt 0 in the load 0", 0, x.paper(0, 0));
        Check.due("another melt in the same load", AnvilHouse.NONE, x.paper(1, 0));
        Check.due("the same melt in another load", AnvilHouse.NONE, x.paper(2, 0));
        Check.due("both are others", AnvilHouse.NONE, x.paper(3, 0));
        x.test(5);
        Check.due("the melt 19 in the load 1", 19, x.paper(3, 0));
        Check.due("its load has a piece, its melt has one, but of another load", AnvilHouse.NONE, x.paper(2, 0));
        Check.due("and the other way round", AnvilHouse.NONE, x.paper(1, 0));
    }
}
