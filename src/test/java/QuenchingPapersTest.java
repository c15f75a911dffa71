/** Promises 16 to 20: quench, temper, hardness, test, paper. */
public final class QuenchingPapersTest {
    private static final int OIL = AnvilHouse.OIL;
    private static final int WATER = AnvilHouse.WATER;

    private QuenchingPapersTest() {
    }

    public static void main(String[] args) {
        oil();
        water();
        hardnessIsNotBelowZero();
        quenchAtItsEdges();
        waterCracks();
        loads();
        quenchRefuses();
        temper();
        temperTakesNoMoreThanThereIs();
        temperRefuses();
        heatEndsHardness();
        hardnessRefuses();
        test();
        testLooksAtAllSections();
        testRefuses();
        paperOfOneLoad();
        paperNeedsAPart();
        paperNeedsMeltAndLoad();
        paperNeedsSoundness();
        paperNeedsHardness();
        paperRefuses();
        Check.end();
    }

    /** Billets of the melt 0 with these areas; behind warm() each area is 4 less. */
    private static AnvilHouse forge(int... areas) {
        AnvilHouse x = new AnvilHouse();
        x.steel(0, 9, 60, 4);
        x.melt(0);
        x.melt(0);
        for (int area : areas) {
            x.billet(0, area);
        }
        return x;
    }

    private static void warm(AnvilHouse x, int... billets) {
        for (int billet : billets) {
            Check.due("warm enough", 800, x.heat(billet, 808, 35));
        }
    }

    private static void cutTo(AnvilHouse x, int billet, int... areas) {
        for (int section = 0; section < areas.length; section++) {
            int more = x.area(billet, section) - areas[section];
            if (more > 0) {
                x.cut(billet, section, more);
            }
        }
        for (int section = 0; section < areas.length; section++) {
            Check.due("the area as wanted", areas[section], x.area(billet, section));
        }
    }

    private static void oil() {
        AnvilHouse x = forge(200);
        warm(x, 0);
        cutTo(x, 0, 196, 99, 100, 90, 89, 10, 9, 1);
        Check.due("quench(1, OIL)", 0, x.quench(1, OIL));
        Check.same("hardness", " 24 24 24 24 28 56 60 60", Look.hardness(x, 0));
        Check.due("no crack in oil", 0, x.billetIs(0, 6));
        Check.due("its skin", 20, x.billetIs(0, 0));
        Check.due("its core", 20, x.billetIs(0, 1));
        Check.due("its load", 0, x.billetIs(0, 8));
        x.cut(0, 1, 98);
        Check.same("the area as it was then", " 24 24 24 24 28 56 60 60", Look.hardness(x, 0));
    }

    private static void water() {
        AnvilHouse x = forge(200, 200);
        warm(x, 0, 1);
        cutTo(x, 0, 196, 180, 179, 60, 59, 20, 19, 19);
        cutTo(x, 1, 20, 20, 20, 20, 20, 20, 20, 20);
        Check.due("quench(3, WATER)", 0, x.quench(3, WATER));
        Check.same("hardness", " 24 24 28 48 52 56 60 60", Look.hardness(x, 0));
        Check.due("no crack", 0, x.billetIs(0, 6));
        Check.due("its core", 20, x.billetIs(0, 1));
        Check.same("hardness of the other one", " 56 56 56 56 56 56 56 56", Look.hardness(x, 1));
        Check.due("its load", 0, x.billetIs(1, 8));
        Check.due("its skin", 20, x.billetIs(1, 0));
    }

    private static void hardnessIsNotBelowZero() {
        AnvilHouse x = forge(200);
        x.steel(0, 9, 20, 9);
        warm(x, 0);
        cutTo(x, 0, 30, 29, 20, 19, 9, 1, 1, 1);
        x.quench(1, OIL);
        Check.same("hardness", " 0 2 2 11 20 20 20 20", Look.hardness(x, 0));
    }

    private static void quenchAtItsEdges() {
        AnvilHouse x = forge(30, 30);
        warm(x, 0);
        Check.due("the core", 799, x.heat(1, 807, 35));
        Check.unchanged(x, "quench", () -> {
            Check.notNow("quench at 799", () -> x.quench(2, OIL));
            Check.notNow("quench at 800 and 799", () -> x.quench(3, OIL));
        });
        Check.due("quench at 800", 0, x.quench(1, OIL));
        warm(x, 1);
        Check.unchanged(x, "quench", () -> Check.notNow("the first one is cold", () -> x.quench(3, OIL)));
    }

    /** Exactly 3 times is no crack; the sections 0 and 7 are no neighbours. */
    private static void waterCracks() {
        AnvilHouse x = forge(100, 100, 100, 100, 100, 100);
        warm(x, 0, 1, 2, 3, 4, 5);
        cutTo(x, 0, 90, 30, 90, 90, 90, 90, 30, 90);
        cutTo(x, 1, 90, 29, 80, 80, 80, 80, 80, 80);
        cutTo(x, 2, 29, 90, 80, 80, 80, 80, 80, 80);
        cutTo(x, 3, 80, 80, 80, 80, 80, 80, 80, 26);
        cutTo(x, 4, 80, 80, 80, 80, 80, 80, 26, 70);
        cutTo(x, 5, 96, 80, 70, 60, 50, 40, 30, 20);
        x.quench(63, WATER);
        int[] cracks = {0, 1, 1, 1, 1, 0};
        for (int billet = 0; billet < cracks.length; billet++) {
            Check.due("a crack of billet " + billet, cracks[billet], x.billetIs(billet, 6));
            Check.due("the load of billet " + billet, 0, x.billetIs(billet, 8));
        }
        Check.same("a cracked one is hard, too", " 44 56 44 44 44 44 44 44", Look.hardness(x, 1));
        Check.due("a cracked one is cold, too", 20, x.billetIs(1, 1));
    }

    private static void loads() {
        AnvilHouse x = forge(150, 150, 150);
        for (int load = 0; load < 20; load++) {
            int billet = load % 3;
            warm(x, billet);
            Check.due("load " + load, load, x.quench(1 << billet, load % 2));
            Check.due("its load", load, x.billetIs(billet, 8));
        }
        warm(x, 2);
        Check.unchanged(x, "quench", () -> {
            Check.notNow("a 21st load", () -> x.quench(4, OIL));
            Check.outOfRange("a 21st load in nothing", () -> x.quench(4, 2));
        });
        x.test(1);
        Check.due("the last load has no part any more", -1, x.paper(1, 0));
    }

    private static void quenchRefuses() {
        AnvilHouse x = forge(30, 30);
        warm(x, 0, 1);
        Check.unchanged(x, "quench", () -> {
            Check.outOfRange("quench(0, OIL)", () -> x.quench(0, OIL));
            Check.outOfRange("quench(4, OIL)", () -> x.quench(4, OIL));
            Check.outOfRange("quench(5, OIL)", () -> x.quench(5, OIL));
            Check.outOfRange("quench(1 << 12, OIL)", () -> x.quench(1 << 12, OIL));
            Check.outOfRange("quench(the sign, OIL)", () -> x.quench(Integer.MIN_VALUE, OIL));
            Check.outOfRange("quench(the sign and 1, OIL)", () -> x.quench(Integer.MIN_VALUE + 1, OIL));
            Check.outOfRange("quench(-1, OIL)", () -> x.quench(-1, OIL));
            Check.outOfRange("quench(1, -1)", () -> x.quench(1, -1));
            Check.outOfRange("quench(1, 2)", () -> x.quench(1, 2));
        });
        x.blow(0, 0, AnvilHouse.DRAW, 1);
        x.cool(1, 50);
        x.blow(1, 0, AnvilHouse.DRAW, 1);
        warm(x, 1);
        Check.unchanged(x, "quench", () -> {
            Check.notNow("quench, cracked", () -> x.quench(2, OIL));
            Check.notNow("quench, one cracked", () -> x.quench(3, OIL));
            Check.outOfRange("quench, one cracked, in nothing", () -> x.quench(3, 2));
            Check.outOfRange("quench, one cracked, one not there", () -> x.quench(6, OIL));
        });
        warm(x, 0);
        Check.due("the first load all the same", 0, x.quench(1, OIL));
        AnvilHouse none = new AnvilHouse();
        Check.outOfRange("quench without billets", () -> none.quench(1, OIL));
        Check.outOfRange("quench nothing without billets", () -> none.quench(0, OIL));
        AnvilHouse all = forge(30, 30, 30, 30, 30, 30, 30, 30, 30, 30, 30, 30);
        warm(all, 0, 11);
        Check.outOfRange("quench of a thirteenth", () -> all.quench(1 << 12 | 1, OIL));
        Check.due("quench the first and the last one", 0, all.quench(1 << 11 | 1, OIL));
        Check.due("the load of one that was not in it", -1, all.billetIs(5, 8));
        Check.due("the hardness of one that was not in it", 0, all.hardness(5, 0));
    }

    /** 26 at each section is 2 in oil: 60 less 8. */
    private static void temper() {
        AnvilHouse x = forge(30, 30);
        warm(x, 0, 1);
        x.quench(3, OIL);
        x.cut(0, 0, 10);
        Check.due("temper(0, 100)", 52, x.temper(0, 100));
        Check.due("temper(0, 119)", 52, x.temper(0, 119));
        Check.due("temper(0, 120)", 51, x.temper(0, 120));
        Check.due("temper(0, 300)", 42, x.temper(0, 300));
        Check.due("a lower one counts nothing", 42, x.temper(0, 200));
        Check.due("as much counts nothing more", 42, x.temper(0, 300));
        Check.same("hardness", " 42 42 42 42 42 42 42 42", Look.hardness(x, 0));
        Check.due("temper(0, 700)", 22, x.temper(0, 700));
        Check.due("the other one", 52, x.hardness(1, 0));
        Check.due("its core", 20, x.billetIs(0, 1));
        Check.due("its load", 0, x.billetIs(0, 8));
        Check.due("no heat", 1, x.billetIs(0, 3));
    }

    private static void temperTakesNoMoreThanThereIs() {
        AnvilHouse x = forge(200);
        x.steel(0, 9, 40, 3);
        warm(x, 0);
        cutTo(x, 0, 50, 10, 10, 10, 10, 10, 10, 9);
        x.quench(1, OIL);
        Check.same("hardness", " 25 37 37 37 37 37 37 40", Look.hardness(x, 0));
        Check.due("the least is told", 15, x.temper(0, 300));
        Check.due("0 at least", 0, x.temper(0, 700));
        Check.same("hardness", " 0 7 7 7 7 7 7 10", Look.hardness(x, 0));
    }

    private static void temperRefuses() {
        AnvilHouse x = forge(30, 30);
        warm(x, 0);
        x.quench(1, OIL);
        Check.unchanged(x, "temper", () -> {
            Check.noSuch("temper(-1, 300)", () -> x.temper(-1, 300));
            Check.noSuch("temper(2, 99)", () -> x.temper(2, 99));
            Check.outOfRange("temper(0, 99)", () -> x.temper(0, 99));
            Check.outOfRange("temper(0, 701)", () -> x.temper(0, 701));
            Check.outOfRange("temper(1, 701), not quenched", () -> x.temper(1, 701));
            Check.notNow("temper(1, 300), not quenched", () -> x.temper(1, 300));
        });
        warm(x, 0);
        Check.notNow("temper behind a heat", () -> x.temper(0, 300));
        x.quench(1, OIL);
        Check.due("what was refused counts nothing", 52, x.temper(0, 100));
    }

    private static void heatEndsHardness() {
        AnvilHouse x = forge(30);
        warm(x, 0);
        x.quench(1, OIL);
        x.temper(0, 700);
        x.heat(0, 200, 1);
        Check.same("hardness", " 0 0 0 0 0 0 0 0", Look.hardness(x, 0));
        Check.due("of no load any more", -1, x.billetIs(0, 8));
        Check.notNow("temper", () -> x.temper(0, 300));
        Check.notNow("test", () -> x.test(0));
        Check.due("the core", 800, x.heat(0, 808, 60));
        Check.due("quench anew", 1, x.quench(1, WATER));
        Check.same("tempers are forgotten", " 60 60 60 60 60 60 60 60", Look.hardness(x, 0));
        Check.due("and count no more", 50, x.temper(0, 300));
    }

    private static void hardnessRefuses() {
        AnvilHouse x = forge(30);
        Check.same("without a quench", " 0 0 0 0 0 0 0 0", Look.hardness(x, 0));
        Check.unchanged(x, "hardness", () -> {
            Check.noSuch("hardness(-1, 0)", () -> x.hardness(-1, 0));
            Check.noSuch("hardness(1, 0)", () -> x.hardness(1, 0));
            Check.noSuch("hardness(0, -1)", () -> x.hardness(0, -1));
            Check.noSuch("hardness(0, 8)", () -> x.hardness(0, 8));
        });
    }

    private static void test() {
        AnvilHouse x = forge(200);
        warm(x, 0);
        cutTo(x, 0, 9, 9, 9, 9, 9, 9, 9, 30);
        x.quench(1, OIL);
        Check.due("test(0)", 48, x.test(0));
        Check.due("test(0) again", 48, x.test(0));
        x.temper(0, 200);
        Check.due("test(0), tempered", 43, x.test(0));
        Check.due("a part no more", -1, x.paper(0, 0));
    }

    /** Each section can be the softest one. */
    private static void testLooksAtAllSections() {
        AnvilHouse x = forge(200, 200, 200, 200, 200, 200, 200, 200);
        warm(x, 0, 1, 2, 3, 4, 5, 6, 7);
        for (int softest = 0; softest < 8; softest++) {
            int[] areas = {9, 9, 9, 9, 9, 9, 9, 9};
            areas[softest] = 20;
            cutTo(x, softest, areas);
        }
        x.quench(255, OIL);
        for (int softest = 0; softest < 8; softest++) {
            Check.due("test(" + softest + ")", 52, x.test(softest));
        }
    }

    private static void testRefuses() {
        AnvilHouse x = forge(30, 30);
        warm(x, 0, 1);
        Check.unchanged(x, "test", () -> {
            Check.noSuch("test(-1)", () -> x.test(-1));
            Check.noSuch("test(2)", () -> x.test(2));
            Check.notNow("test(0), not quenched", () -> x.test(0));
        });
        x.quench(3, OIL);
        x.test(1);
        Check.due("a refused one is a part still", 0, x.paper(0, 0));
    }

    private static void paperOfOneLoad() {
        AnvilHouse x = forge(30, 30);
        x.billet(1, 30);
        x.billet(1, 30);
        warm(x, 0, 1, 2, 3);
        x.quench(15, OIL);
        Check.due("without a test piece", -1, x.paper(0, 0));
        x.test(1);
        Check.due("a paper", 0, x.paper(0, 0));
        Check.due("a paper is given again", 0, x.paper(0, 52));
        Check.due("none of another melt", -1, x.paper(2, 0));
        x.test(3);
        Check.due("a paper of the other melt", 1, x.paper(2, 0));
        x.heat(1, 200, 1);
        Check.due("a test piece is there for good", 0, x.paper(0, 0));
    }

    private static void paperNeedsAPart() {
        AnvilHouse x = forge(30, 30, 30);
        Check.due("a new one is of no load", -1, x.paper(0, 0));
        warm(x, 0, 1, 2);
        x.quench(7, OIL);
        x.test(0);
        Check.due("the test piece itself", -1, x.paper(0, 0));
        x.heat(0, 808, 60);
        x.heat(1, 808, 60);
        Check.due("of no load behind a heat", -1, x.paper(1, 0));
        x.quench(3, OIL);
        x.test(1);
        Check.due("no part any more, for good", -1, x.paper(0, 0));
        Check.due("the one that stayed in its load", 0, x.paper(2, 0));
    }

    private static void paperNeedsMeltAndLoad() {
        AnvilHouse x = forge(30, 30, 30);
        warm(x, 0, 1, 2);
        Check.due("a load", 0, x.quench(1, OIL));
        Check.due("another load", 1, x.quench(6, OIL));
        x.test(0);
        Check.due("a test piece of another load", -1, x.paper(1, 0));
        x.test(2);
        Check.due("a test piece of its load", 0, x.paper(1, 0));
        AnvilHouse y = forge();
        for (int melt = 2; melt < 20; melt++) {
            y.melt(3);
        }
        y.billet(19, 30);
        y.billet(19, 30);
        y.billet(3, 30);
        warm(y, 0, 1, 2);
        y.quench(7, OIL);
        y.test(0);
        Check.due("a paper leads to the melt", 19, y.paper(1, 0));
        Check.due("and to no other one", -1, y.paper(2, 0));
    }

    private static void paperNeedsSoundness() {
        AnvilHouse x = forge(30, 30, 30, 30);
        warm(x, 0, 1, 2, 3);
        x.cut(0, 0, 22);
        x.blow(0, 0, AnvilHouse.DRAW, 1);
        Check.due("a lap", 1, x.billetIs(0, 5));
        x.heat(0, 808, 60);
        x.quench(15, OIL);
        x.test(3);
        Check.due("with a lap", -1, x.paper(0, 0));
        Check.due("without", 0, x.paper(1, 0));
        x.blow(1, 0, AnvilHouse.DRAW, 1);
        Check.due("with a crack", -1, x.paper(1, 0));
        Check.due("without", 0, x.paper(2, 0));
    }

    private static void paperNeedsHardness() {
        AnvilHouse x = forge(200, 200);
        warm(x, 0, 1);
        cutTo(x, 0, 9, 9, 9, 9, 9, 9, 20, 9);
        x.quench(3, OIL);
        Check.due("test(1)", 24, x.test(1));
        Check.due("as hard as the softest section", 0, x.paper(0, 52));
        Check.due("harder than the softest section", -1, x.paper(0, 53));
        x.temper(0, 140);
        Check.due("tempered", -1, x.paper(0, 51));
        Check.due("tempered", 0, x.paper(0, 50));
    }

    private static void paperRefuses() {
        AnvilHouse x = forge(30);
        Check.unchanged(x, "paper", () -> {
            Check.noSuch("paper(-1, 0)", () -> x.paper(-1, 0));
            Check.noSuch("paper(1, 71)", () -> x.paper(1, 71));
            Check.outOfRange("paper(0, -1)", () -> x.paper(0, -1));
            Check.outOfRange("paper(0, 71)", () -> x.paper(0, 71));
        });
        Check.due("the most that is asked", -1, x.paper(0, 70));
    }
}
