/** Promises 1 to 7: a new object, steel, melt, billet, billetIs, area, balances. */
public final class SteelsBilletsTest {
    private SteelsBilletsTest() {
    }

    public static void main(String[] args) {
        newObject();
        steelsOfNow();
        steelTakesItsEdges();
        steelRefuses();
        melts();
        meltRefuses();
        billets();
        billetRefuses();
        billetIs();
        billetIsRefuses();
        area();
        balances();
        Check.end();
    }

    private static void newObject() {
        AnvilHouse x = new AnvilHouse();
        Check.noSuch("a billet of no melt", () -> x.billet(0, 10));
        Check.noSuch("billetIs(0, 0) without billets", () -> x.billetIs(0, 0));
        Check.noSuch("balances(0) without billets", () -> x.balances(0));
        Check.noSuch("sink(0) without dies", () -> x.sink(0));
        Check.due("planned(0)", -1, x.planned(0));
        Check.due("the first melt", 0, x.melt(0));
        Check.due("the first billet", 0, x.billet(0, 10));
        Check.due("the first die", 0, x.die());
        x.heat(0, 1000, 60);
        Check.due("the first load", 0, x.quench(1, AnvilHouse.OIL));
        AnvilHouse other = new AnvilHouse();
        Check.noSuch("another object has billets of its own", () -> other.billetIs(0, 0));
    }

    /** Each steel: 3 heats, a hardness of 60, a drop of 4 at first; told anew for what comes. */
    private static void steelsOfNow() {
        for (int steel = 0; steel < 4; steel++) {
            AnvilHouse x = new AnvilHouse();
            int of = steel;
            x.melt(of);
            x.billet(0, 100);
            x.heat(0, 850, 20);
            x.heat(0, 850, 20);
            x.heat(0, 850, 20);
            Check.notNow("a fourth heat at first", () -> x.heat(0, 850, 20));
            x.steel(of, 4, 50, 3);
            x.heat(0, 850, 20);
            Check.notNow("a fifth heat of four", () -> x.heat(0, 850, 20));
            Check.due("the area behind all scale", 85, x.area(0, 0));
            x.quench(1, AnvilHouse.OIL);
            Check.due("the hardness of the steel as told", 50 - 3 * 8, x.hardness(0, 0));
            x.steel(of, 9, 70, 0);
            Check.due("a steel told later leaves the quench alone", 26, x.hardness(0, 0));
            x.steel(of, 1, 70, 0);
            Check.notNow("fewer heats than were", () -> x.heat(0, 850, 1));
            x.billet(0, 100);
            x.heat(1, 850, 40);
            x.quench(2, AnvilHouse.OIL);
            Check.due("70 without a drop", 70, x.hardness(1, 0));
        }
        AnvilHouse x = new AnvilHouse();
        x.steel(1, 1, 20, 9);
        x.melt(0);
        x.billet(0, 100);
        x.heat(0, 850, 20);
        x.heat(0, 850, 20);
        x.quench(1, AnvilHouse.OIL);
        Check.due("another steel than the one that was told", 60 - 4 * 9, x.hardness(0, 0));
    }

    private static void steelTakesItsEdges() {
        AnvilHouse x = new AnvilHouse();
        x.steel(0, 1, 20, 0);
        x.steel(3, 9, 70, 9);
        x.melt(0);
        x.melt(3);
        x.billet(0, 200);
        x.billet(1, 200);
        for (int i = 1; i <= 9; i++) {
            Check.due("one of nine heats", 800, x.heat(1, 808, 60));
        }
        Check.notNow("a tenth heat", () -> x.heat(1, 808, 60));
        x.heat(0, 808, 60);
        Check.notNow("a second heat of one", () -> x.heat(0, 808, 60));
    }

    private static void steelRefuses() {
        AnvilHouse x = new AnvilHouse();
        Check.noSuch("steel(-1, ..)", () -> x.steel(-1, 1, 20, 0));
        Check.noSuch("steel(4, ..)", () -> x.steel(4, 1, 20, 0));
        Check.noSuch("steel(4, 0, 0, -1)", () -> x.steel(4, 0, 0, -1));
        Check.noSuch("steel(the least, ..)", () -> x.steel(Integer.MIN_VALUE, 1, 20, 0));
        Check.noSuch("steel(the most, ..)", () -> x.steel(Integer.MAX_VALUE, 1, 20, 0));
        Check.outOfRange("0 heats", () -> x.steel(0, 0, 20, 0));
        Check.outOfRange("10 heats", () -> x.steel(0, 10, 20, 0));
        Check.outOfRange("hardness 19", () -> x.steel(0, 1, 19, 0));
        Check.outOfRange("hardness 71", () -> x.steel(0, 1, 71, 0));
        Check.outOfRange("drop -1", () -> x.steel(0, 1, 20, -1));
        Check.outOfRange("drop 10", () -> x.steel(0, 1, 20, 10));
        x.melt(0);
        x.billet(0, 100);
        x.heat(0, 850, 20);
        x.heat(0, 850, 20);
        x.quench(1, AnvilHouse.OIL);
        Check.due("a refused steel is as it was", 60 - 4 * 9, x.hardness(0, 0));
    }

    private static void melts() {
        AnvilHouse x = new AnvilHouse();
        for (int i = 0; i < 20; i++) {
            Check.due("melt " + i, i, x.melt(i % 4));
        }
        Check.notNow("a 21st melt", () -> x.melt(0));
        Check.noSuch("a 21st melt of no steel", () -> x.melt(4));
        Check.due("a billet of the last melt", 0, x.billet(19, 10));
        Check.noSuch("a billet of the refused melt", () -> x.billet(20, 10));
    }

    private static void meltRefuses() {
        AnvilHouse x = new AnvilHouse();
        Check.noSuch("melt(-1)", () -> x.melt(-1));
        Check.noSuch("melt(4)", () -> x.melt(4));
        Check.noSuch("no melt was made", () -> x.billet(0, 10));
        Check.due("the first melt", 0, x.melt(3));
    }

    private static void billets() {
        AnvilHouse x = new AnvilHouse();
        x.melt(0);
        x.melt(2);
        for (int i = 0; i < 12; i++) {
            Check.due("billet " + i, i, x.billet(i % 2, i == 0 ? 2 : i == 1 ? 200 : 10 + i));
        }
        Check.notNow("a 13th billet", () -> x.billet(0, 10));
        Check.outOfRange("a 13th billet of no area", () -> x.billet(0, 1));
        Check.noSuch("a 13th billet of no melt", () -> x.billet(2, 10));
        Check.noSuch("no 13th billet is there", () -> x.billetIs(12, 0));
        Check.same("the least area", " 2 2 2 2 2 2 2 2", Look.areas(x, 0));
        Check.same("the most area", " 200 200 200 200 200 200 200 200", Look.areas(x, 1));
        Check.same("a new billet",
                "billet 11: 20 20 168 0 50 0 0 240 -1 areas 21 21 21 21 21 21 21 21"
                        + " hardness 0 0 0 0 0 0 0 0 balances paper -1",
                Look.billet(x, 11));
    }

    private static void billetRefuses() {
        AnvilHouse x = new AnvilHouse();
        x.melt(0);
        Check.noSuch("billet(-1, 10)", () -> x.billet(-1, 10));
        Check.noSuch("billet(1, 10)", () -> x.billet(1, 10));
        Check.noSuch("billet(1, 1)", () -> x.billet(1, 1));
        Check.outOfRange("billet(0, 1)", () -> x.billet(0, 1));
        Check.outOfRange("billet(0, 201)", () -> x.billet(0, 201));
        Check.outOfRange("billet(0, the least)", () -> x.billet(0, Integer.MIN_VALUE));
        Check.noSuch("no billet was made", () -> x.area(0, 0));
        Check.due("the first billet", 0, x.billet(0, 10));
    }

    private static void billetIs() {
        AnvilHouse x = new AnvilHouse();
        x.melt(0);
        x.billet(0, 30);
        x.billet(0, 30);
        x.heat(0, 1200, 30);
        Check.due("its skin", 1197, x.billetIs(0, 0));
        Check.due("its core", 1183, x.billetIs(0, 1));
        Check.due("its volume", 192, x.billetIs(0, 2));
        Check.due("how often it was heated", 1, x.billetIs(0, 3));
        Check.due("its grain", 52, x.billetIs(0, 4));
        x.blow(0, 0, AnvilHouse.DRAW, 20);
        Check.due("its laps", 1, x.billetIs(0, 5));
        Check.due("no crack", 0, x.billetIs(0, 6));
        x.layer(0, AnvilHouse.CUT);
        Check.due("its layers", 15, x.billetIs(0, 7));
        Check.due("its load, NONE without", -1, x.billetIs(0, 8));
        x.quench(1, AnvilHouse.WATER);
        Check.due("its crack", 1, x.billetIs(0, 6));
        Check.due("its load", 0, x.billetIs(0, 8));
        Check.due("skin of the other billet", 20, x.billetIs(1, 0));
        Check.due("volume of the other billet", 240, x.billetIs(1, 2));
        Check.due("layers of the other billet", 240, x.billetIs(1, 7));
    }

    private static void billetIsRefuses() {
        AnvilHouse x = new AnvilHouse();
        x.melt(0);
        x.billet(0, 30);
        Check.unchanged(x, "billetIs", () -> {
            Check.noSuch("billetIs(-1, 0)", () -> x.billetIs(-1, 0));
            Check.noSuch("billetIs(1, 0)", () -> x.billetIs(1, 0));
            Check.noSuch("billetIs(1, 9)", () -> x.billetIs(1, 9));
            Check.outOfRange("billetIs(0, -1)", () -> x.billetIs(0, -1));
            Check.outOfRange("billetIs(0, 9)", () -> x.billetIs(0, 9));
        });
    }

    private static void area() {
        AnvilHouse x = new AnvilHouse();
        x.melt(0);
        x.billet(0, 30);
        x.billet(0, 40);
        x.cut(0, 7, 3);
        x.cut(0, 0, 4);
        Check.same("areas", " 26 30 30 30 30 30 30 27", Look.areas(x, 0));
        Check.same("areas of the other billet", " 40 40 40 40 40 40 40 40", Look.areas(x, 1));
        Check.noSuch("area(-1, 0)", () -> x.area(-1, 0));
        Check.noSuch("area(2, 0)", () -> x.area(2, 0));
        Check.noSuch("area(0, -1)", () -> x.area(0, -1));
        Check.noSuch("area(0, 8)", () -> x.area(0, 8));
    }

    /** Scale, flash and what was cut are gone; what a blow or a press moves is not. */
    private static void balances() {
        AnvilHouse x = new AnvilHouse();
        x.melt(0);
        x.billet(0, 30);
        x.die();
        Check.holds("a new billet balances", x.balances(0));
        x.heat(0, 1200, 30);
        Check.due("the volume behind scale", 192, x.billetIs(0, 2));
        Check.holds("it balances behind scale", x.balances(0));
        x.blow(0, 0, AnvilHouse.DRAW, 3);
        x.blow(0, 5, AnvilHouse.UPSET, 6);
        Check.due("the volume behind blows", 192, x.billetIs(0, 2));
        Check.holds("it balances behind blows", x.balances(0));
        x.cut(0, 3, 4);
        Check.due("the volume behind a cut", 188, x.billetIs(0, 2));
        Check.holds("it balances behind a cut", x.balances(0));
        Check.due("the die is filled", 0, x.press(0, 0, 50));
        Check.due("the volume behind flash", 80, x.billetIs(0, 2));
        Check.holds("it balances behind flash", x.balances(0));
        Check.noSuch("balances(-1)", () -> x.balances(-1));
        Check.noSuch("balances(1)", () -> x.balances(1));
    }
}
