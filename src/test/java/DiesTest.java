/** Promises 12 to 15: die, shape, sink, press. */
public final class DiesTest {
    private DiesTest() {
    }

    public static void main(String[] args) {
        dies();
        shape();
        shapeRefuses();
        sink();
        energyAndCore();
        energyIsRoundedDown();
        fromSectionZeroOn();
        nearestLowerOne();
        sectionsAreALine();
        flash();
        noFlashWhileOneHasLess();
        lifeByWarmth();
        lifeEnds();
        coldPress();
        pressRefuses();
        Check.end();
    }

    /** A billet of 18 at each section, with a skin of 1297 and a core of 1292, and a die of 18. */
    private static AnvilHouse forge() {
        AnvilHouse x = new AnvilHouse();
        x.steel(0, 9, 60, 4);
        x.melt(0);
        x.billet(0, 30);
        x.heat(0, 1300, 60);
        x.die();
        shape(x, 18, 18, 18, 18, 18, 18, 18, 18);
        return x;
    }

    private static void shape(AnvilHouse x, int... areas) {
        for (int section = 0; section < areas.length; section++) {
            x.shape(0, section, areas[section]);
        }
    }

    private static void dies() {
        AnvilHouse x = new AnvilHouse();
        for (int die = 0; die < 4; die++) {
            Check.due("die " + die, die, x.die());
        }
        Check.notNow("a fifth die", x::die);
        Check.noSuch("no fifth die is there", () -> x.sink(4));
        for (int die = 0; die < 4; die++) {
            Check.same("a new die", "die " + die + ": 10 10 10 10 10 10 10 10", Look.die(x, die));
            Check.due("its life", 100, x.sink(die));
        }
    }

    private static void shape() {
        AnvilHouse x = new AnvilHouse();
        x.die();
        x.die();
        Check.due("shape(0, 0, 1)", 10, x.shape(0, 0, 1));
        Check.due("shape(0, 0, 400)", 1, x.shape(0, 0, 400));
        Check.due("shape(0, 7, 12)", 10, x.shape(0, 7, 12));
        Check.same("shaped", "die 0: 400 10 10 10 10 10 10 12", Look.die(x, 0));
        Check.same("the other die", "die 1: 10 10 10 10 10 10 10 10", Look.die(x, 1));
    }

    private static void shapeRefuses() {
        AnvilHouse x = new AnvilHouse();
        x.die();
        Check.unchanged(x, "shape", () -> {
            Check.noSuch("shape(-1, 0, 1)", () -> x.shape(-1, 0, 1));
            Check.noSuch("shape(1, 0, 1)", () -> x.shape(1, 0, 1));
            Check.noSuch("shape(0, -1, 1)", () -> x.shape(0, -1, 1));
            Check.noSuch("shape(0, 8, 0)", () -> x.shape(0, 8, 0));
            Check.outOfRange("shape(0, 0, 0)", () -> x.shape(0, 0, 0));
            Check.outOfRange("shape(0, 0, 401)", () -> x.shape(0, 0, 401));
        });
    }

    private static void sink() {
        AnvilHouse x = forge();
        x.die();
        x.press(0, 0, 1);
        x.press(0, 0, 1);
        Check.due("the life of the other die", 100, x.sink(1));
        Check.due("the life that it had", 98, x.sink(0));
        Check.due("it is 100 anew", 100, x.sink(0));
        Check.same("its areas stay", "die 0: 18 18 18 18 18 18 18 18", Look.die(x, 0));
        Check.noSuch("sink(-1)", () -> x.sink(-1));
        Check.noSuch("sink(2)", () -> x.sink(2));
    }

    /** At most energy times core by 1000: 5 times 1292 are 6, not 5. */
    private static void energyAndCore() {
        AnvilHouse x = forge();
        shape(x, 30, 10, 10, 10, 30, 18, 18, 18);
        Check.due("press(0, 0, 5)", 2, x.press(0, 0, 5));
        Check.same("6 were moved", " 24 12 18 18 18 18 18 18", Look.areas(x, 0));
        Check.due("a minute went by: core", 1272, x.billetIs(0, 1));
        Check.due("a minute went by: skin", 1170, x.billetIs(0, 0));
        Check.due("press(0, 0, 1)", 2, x.press(0, 0, 1));
        Check.same("1 was moved", " 25 11 18 18 18 18 18 18", Look.areas(x, 0));
        Check.due("press(0, 0, 50)", 0, x.press(0, 0, 50));
        Check.same("all was moved", " 30 10 10 10 30 18 18 18", Look.areas(x, 0));
        Check.holds("it balances", x.balances(0));
    }

    private static void energyIsRoundedDown() {
        AnvilHouse x = forge();
        shape(x, 30, 10, 18, 18, 18, 18, 18, 18);
        x.billet(0, 30);
        x.heat(1, 1008, 60);
        Check.due("the core", 1000, x.billetIs(1, 1));
        int area = x.area(1, 0);
        x.press(1, 0, 1);
        Check.due("1 is moved at 1000", area + 1, x.area(1, 0));
        x.billet(0, 30);
        x.heat(2, 1007, 60);
        Check.due("the core", 999, x.billetIs(2, 1));
        area = x.area(2, 0);
        x.press(2, 0, 1);
        Check.due("none is moved at 999", area, x.area(2, 0));
    }

    private static void fromSectionZeroOn() {
        AnvilHouse x = forge();
        shape(x, 20, 20, 18, 18, 18, 18, 20, 14);
        Check.due("press(0, 0, 3)", 2, x.press(0, 0, 3));
        Check.same("3 were moved, to the lowest ones", " 20 19 18 18 18 18 18 15", Look.areas(x, 0));
        Check.due("press(0, 0, 50)", 1, x.press(0, 0, 50));
        Check.same("then nothing is more", " 20 20 18 18 18 18 18 14", Look.areas(x, 0));
        Check.due("a press makes no lap", 0, x.billetIs(0, 5));
        Check.due("a press leaves the grain", 55, x.billetIs(0, 4));
    }

    private static void nearestLowerOne() {
        AnvilHouse x = forge();
        shape(x, 18, 16, 18, 24, 18, 16, 18, 18);
        x.press(0, 0, 1);
        Check.same("the lower one of two", " 18 17 18 19 18 18 18 18", Look.areas(x, 0));
        x.press(0, 0, 2);
        Check.same("one unit after the other", " 18 16 18 21 18 17 18 18", Look.areas(x, 0));
        Check.due("press(0, 0, 50)", 1, x.press(0, 0, 50));
        Check.same("as far as there is more", " 18 16 18 22 18 16 18 18", Look.areas(x, 0));
        x = forge();
        shape(x, 12, 18, 18, 20, 16, 18, 18, 18);
        x.press(0, 0, 1);
        Check.same("the nearest one", " 18 18 18 19 17 18 18 18", Look.areas(x, 0));
    }

    private static void sectionsAreALine() {
        AnvilHouse x = forge();
        shape(x, 20, 18, 18, 18, 16, 18, 18, 16);
        x.press(0, 0, 1);
        Check.same("7 is far from 0", " 19 18 18 18 17 18 18 18", Look.areas(x, 0));
        x = forge();
        shape(x, 16, 18, 18, 16, 18, 18, 18, 20);
        x.press(0, 0, 1);
        Check.same("0 is far from 7", " 18 18 18 17 18 18 18 19", Look.areas(x, 0));
        x = forge();
        shape(x, 16, 18, 18, 18, 18, 18, 18, 20);
        x.press(0, 0, 1);
        Check.same("but can be the nearest", " 17 18 18 18 18 18 18 19", Look.areas(x, 0));
    }

    private static void flash() {
        AnvilHouse x = forge();
        shape(x, 1, 18, 17, 18, 18, 18, 18, 10);
        Check.due("no section has less", 0, x.press(0, 0, 1));
        Check.same("flash is cut", " 1 18 17 18 18 18 18 10", Look.areas(x, 0));
        Check.due("the volume", 144 - 26, x.billetIs(0, 2));
        Check.holds("it balances", x.balances(0));
    }

    private static void noFlashWhileOneHasLess() {
        AnvilHouse x = forge();
        shape(x, 10, 10, 10, 10, 10, 10, 10, 20);
        Check.due("one has less", 1, x.press(0, 0, 1));
        Check.same("no flash is cut", " 18 18 18 18 18 18 17 19", Look.areas(x, 0));
        Check.due("none has less by the last unit", 0, x.press(0, 0, 1));
        Check.same("flash is cut", " 10 10 10 10 10 10 10 20", Look.areas(x, 0));
        Check.holds("it balances", x.balances(0));
    }

    private static void lifeByWarmth() {
        AnvilHouse x = forge();
        x.billet(0, 30);
        x.heat(1, 908, 36);
        Check.due("the core", 900, x.billetIs(1, 1));
        x.press(1, 0, 1);
        Check.due("1 less at 900", 99, x.sink(0));
        x.billet(0, 30);
        x.heat(2, 907, 36);
        Check.due("the core", 899, x.billetIs(2, 1));
        x.press(2, 0, 1);
        Check.due("3 less at 899", 97, x.sink(0));
    }

    /** From a core of 1292 on 8 presses take 1 each and 4 take 3 each, ahead of 700. */
    private static void lifeEnds() {
        AnvilHouse x = forge();
        for (int i = 0; i < 5; i++) {
            x.heat(0, 1300, 60);
            for (int press = 0; press < 12; press++) {
                x.press(0, 0, 1);
            }
        }
        Check.due("the core", 656, x.billetIs(0, 1));
        Check.unchanged(x, "press without life", () -> {
            Check.notNow("press, with no life, cold", () -> x.press(0, 0, 1));
            Check.outOfRange("press with no energy and no life", () -> x.press(0, 0, 0));
        });
        x.heat(0, 1300, 60);
        Check.unchanged(x, "press without life", () -> Check.notNow("press", () -> x.press(0, 0, 1)));
        Check.due("no crack by that", 0, x.billetIs(0, 6));
        Check.due("no life", 0, x.sink(0));
        Check.due("press with a new life", 8, x.press(0, 0, 1));
        x.sink(0);
        x.billet(0, 30);
        for (int press = 0; press < 34; press++) {
            if (press % 4 == 0) {
                x.heat(1, 808, 35);
            }
            x.press(1, 0, 1);
        }
        Check.due("no life below 0, by 34 times 3", 0, x.sink(0));
    }

    private static void coldPress() {
        AnvilHouse x = forge();
        x.billet(0, 30);
        x.heat(1, 708, 34);
        Check.due("the core", 700, x.billetIs(1, 1));
        Check.due("a press at 700", 0, x.press(1, 0, 1));
        Check.due("no crack at 700", 0, x.billetIs(1, 6));
        x.sink(0);
        x.billet(0, 30);
        x.heat(2, 707, 34);
        Check.due("the core", 699, x.billetIs(2, 1));
        Check.due("a press at 699", -1, x.press(2, 0, 1));
        Check.same("nothing else is done",
                "billet 2: 704 699 240 1 50 0 1 240 -1 areas 30 30 30 30 30 30 30 30"
                        + " hardness 0 0 0 0 0 0 0 0 balances paper -1",
                Look.billet(x, 2));
        Check.due("the life stays", 100, x.sink(0));
        Check.unchanged(x, "press", () -> Check.notNow("press, cracked", () -> x.press(2, 0, 1)));
        x.heat(2, 1300, 60);
        Check.notNow("press, cracked and warm", () -> x.press(2, 0, 1));
        Check.due("the life stays", 100, x.sink(0));
    }

    private static void pressRefuses() {
        AnvilHouse x = forge();
        x.billet(0, 30);
        x.press(1, 0, 1);
        Check.unchanged(x, "press", () -> {
            Check.noSuch("press(-1, 0, 1)", () -> x.press(-1, 0, 1));
            Check.noSuch("press(2, 0, 1)", () -> x.press(2, 0, 1));
            Check.noSuch("press(0, -1, 1)", () -> x.press(0, -1, 1));
            Check.noSuch("press(0, 1, 0)", () -> x.press(0, 1, 0));
            Check.outOfRange("press(0, 0, 0)", () -> x.press(0, 0, 0));
            Check.outOfRange("press(0, 0, 51)", () -> x.press(0, 0, 51));
            Check.outOfRange("press(1, 0, 51), cracked", () -> x.press(1, 0, 51));
            Check.noSuch("press(1, 1, 1), cracked", () -> x.press(1, 1, 1));
            Check.notNow("press(1, 0, 1), cracked", () -> x.press(1, 0, 1));
        });
        Check.due("the life stays", 100, x.sink(0));
    }
}
