/**
 * The edges that 'Dies' and the promises 12 to 15 name, a test for each sentence, which stands
 * above it.
 */
public final class EdgesOfDiesTest {
    private EdgesOfDiesTest() {
    }

    public static void main(String[] args) {
        fourDies();
        tenAtFirst();
        areaOneTo400();
        sectionsOfADie();
        energyOneToFifty();
        energyTimesCoreRoundedDown();
        atMostInAll();
        sectionsThatHaveLess();
        fromZeroOn();
        nearestTheLowerOneOfTwo();
        oneUnitAfterTheOther();
        noSectionHasMore();
        lifeLessByOneOrThree();
        lifeZeroAtLeast();
        noPressWithoutLife();
        sinkMakesIt100();
        cracksBelow700();
        noPressWithACrack();
        otherwiseAMinuteGoesBy();
        flashIfNoneHasLess();
        noFlashIfOneHasLess();
        howManyHaveLess();
        Check.end();
    }

    /** A billet, two more to wear dies with, and a die. */
    private static AnvilHouse forge() {
        AnvilHouse x = Forge.of(200, 200, 200);
        x.die();
        return x;
    }

    /** Takes from the life of the die by presses of 1 each: from a core of 1292 on eight of them are warm enough. */
    private static void wearTo(AnvilHouse x, int die, int life) {
        int by = 0;
        for (int worn = 0; worn < 100 - life; worn++) {
            if (worn % 8 == 0) {
                by = 1 + worn / 8 % 2;
                x.heat(by, 1300, 60);
            }
            x.press(by, die, 1);
        }
    }

    /** "Dies are numbered from 0, at most 4"; "IllegalStateException if there are 4". */
    private static void fourDies() {
        AnvilHouse x = Forge.of(30);
        for (int die = 0; die < 4; die++) {
            int next = die;
            Check.noSuch("the die " + die + " ahead of it", () -> x.sink(next));
            Check.due("a die", die, x.die());
            Check.due("its life", 100, x.sink(die));
        }
        Check.notNow("the fifth die", x::die);
        for (int die : new int[] {-1, 4, Integer.MIN_VALUE, Integer.MAX_VALUE}) {
            Check.noSuch("a sink of the die " + die, () -> x.sink(die));
            Check.noSuch("a shape of the die " + die, () -> x.shape(die, 0, 10));
            Check.noSuch("a press into the die " + die, () -> x.press(0, die, 1));
        }
    }

    /** "each with an area for each section, 10 at first, .. and a life, 100 at first". */
    private static void tenAtFirst() {
        AnvilHouse x = new AnvilHouse();
        for (int die = 0; die < 4; die++) {
            x.die();
            for (int section = 0; section < 8; section++) {
                Check.due("the area at first", 10, x.shape(die, section, 11 + section));
            }
            Check.due("the life at first", 100, x.sink(die));
        }
        Check.same("shaped", "die 3: 11 12 13 14 15 16 17 18", Look.die(x, 3));
    }

    /** "area: 1 to 400"; "Returns what it was." */
    private static void areaOneTo400() {
        AnvilHouse x = forge();
        Check.due("an area of 1", 10, x.shape(0, 0, 1));
        Check.due("an area of 400", 1, x.shape(0, 0, 400));
        Check.outOfRange("an area of 0", () -> x.shape(0, 0, 0));
        Check.outOfRange("an area of -1", () -> x.shape(0, 0, -1));
        Check.outOfRange("an area of 401", () -> x.shape(0, 0, 401));
        Check.due("the area behind what was refused", 400, x.shape(0, 0, 400));
    }

    /** A die has the sections 0 to 7, too. */
    private static void sectionsOfADie() {
        AnvilHouse x = forge();
        for (int section : new int[] {-1, 8, Integer.MIN_VALUE, Integer.MAX_VALUE}) {
            Check.noSuch("the section " + section + " of a die", () -> x.shape(0, section, 10));
        }
        Check.due("the section 0", 10, x.shape(0, 0, 20));
        Check.due("the section 7", 10, x.shape(0, 7, 30));
        Check.same("shaped", "die 0: 20 10 10 10 10 10 10 30", Look.die(x, 0));
    }

    /** "energy, 1 to 50". */
    private static void energyOneToFifty() {
        AnvilHouse x = forge();
        Forge.warm(x, 0, 1292);
        Check.outOfRange("an energy of 0", () -> x.press(0, 0, 0));
        Check.outOfRange("an energy of -1", () -> x.press(0, 0, -1));
        Check.outOfRange("an energy of 51", () -> x.press(0, 0, 51));
        Check.due("the core behind what was refused", 1292, x.billetIs(0, 1));
        Check.due("the life behind what was refused", 100, x.sink(0));
        x.shape(0, 0, 400);
        Check.due("an energy of 1", 1, x.press(0, 0, 1));
        Check.due("an energy of 50", 1, x.press(0, 0, 50));
        Check.due("1 and 50 times 1272 by 1000 were moved", 188 + 1 + 63, x.area(0, 0));
    }

    /** "moves at most the energy times the core by 1000, rounded down". */
    private static void energyTimesCoreRoundedDown() {
        int[][] rows = {{1, 700, 0}, {1, 999, 0}, {1, 1000, 1}, {1, 1292, 1}, {2, 999, 1}, {2, 1000, 2},
            {3, 999, 2}, {50, 700, 35}, {50, 719, 35}, {50, 720, 36}, {50, 1279, 63}, {50, 1280, 64}};
        for (int[] row : rows) {
            AnvilHouse x = forge();
            Forge.warm(x, 0, row[1]);
            Forge.shapeTo(x, 0, 400, 1, 1, 1, 1, 1, 1, 1);
            int area = x.area(0, 0);
            Check.due("one has less", 1, x.press(0, 0, row[0]));
            Check.due("moved by " + row[0] + " at " + row[1], area + row[2], x.area(0, 0));
            Check.due("and taken from the next one", area - row[2], x.area(0, 1));
        }
    }

    /** "at most .. in all": over all sections, and no more than they lack. */
    private static void atMostInAll() {
        AnvilHouse x = forge();
        Forge.warm(x, 0, 1000);
        int a = x.area(0, 0);
        Forge.shapeTo(x, 0, a + 2, a + 2, a + 2, a - 9, a, a, a, a);
        Check.due("5 of 6", 1, x.press(0, 0, 5));
        Forge.areas("behind 5", x, 0, a + 2, a + 2, a + 1, a - 5, a, a, a, a);
        AnvilHouse y = forge();
        Forge.warm(y, 0, 1000);
        Forge.shapeTo(y, 0, a + 2, a + 2, a + 2, a - 9, a, a, a, a);
        Check.due("6 of 6", 0, y.press(0, 0, 6));
        Forge.areas("behind 6", y, 0, a + 2, a + 2, a + 2, a - 9, a, a, a, a);
        Check.holds("it balances", y.balances(0));
        AnvilHouse z = forge();
        Forge.warm(z, 0, 1000);
        Forge.shapeTo(z, 0, a + 2, a + 2, a + 2, a - 6, a, a, a, a);
        Check.due("50 for 6", 0, z.press(0, 0, 50));
        Forge.areas("no more than they lack", z, 0, a + 2, a + 2, a + 2, a - 6, a, a, a, a);
        Check.due("and none was cut", 8 * a, z.billetIs(0, 2));
    }

    /** "for each section that has less than the die": not for one that has as much. */
    private static void sectionsThatHaveLess() {
        AnvilHouse x = forge();
        Forge.warm(x, 0, 1000);
        int a = x.area(0, 0);
        Forge.shapeTo(x, 0, a, a + 1, a, a - 5, a, a, a + 1, a);
        Check.due("press", 1, x.press(0, 0, 1));
        Forge.areas("one that has as much gets none", x, 0, a, a + 1, a, a - 1, a, a, a, a);
    }

    /** "from 0 on". */
    private static void fromZeroOn() {
        AnvilHouse x = forge();
        Forge.warm(x, 0, 1292);
        int a = x.area(0, 0);
        Forge.shapeTo(x, 0, a + 1, a + 1, a + 1, a + 1, a + 1, a + 1, a + 1, 1);
        int[] due = {a, a, a, a, a, a, a, a};
        for (int section = 0; section < 7; section++) {
            Check.due("press", section < 6 ? 6 - section : 0, x.press(0, 0, 1));
            due[section]++;
            due[7] = section < 6 ? due[7] - 1 : 1;
            Forge.areas("behind press " + section, x, 0, due);
        }
    }

    /** "from the nearest section that has more than the die, the lower one of two": in a line from 0 to 7. */
    private static void nearestTheLowerOneOfTwo() {
        for (int less = 0; less < 8; less++) {
            for (int lower = -1; lower < less; lower++) {
                for (int upper = less + 1; upper <= 8; upper++) {
                    if (lower >= 0 || upper < 8) {
                        boolean fromLower = lower >= 0 && (upper == 8 || less - lower <= upper - less);
                        oneUnit(less, lower, upper, fromLower ? lower : upper);
                    }
                }
            }
        }
    }

    /** The section less has 9 less than the die, lower and upper, if they are there, have 2 more. */
    private static void oneUnit(int less, int lower, int upper, int from) {
        AnvilHouse x = forge();
        Forge.warm(x, 0, 1000);
        int[] due = new int[8];
        for (int section = 0; section < 8; section++) {
            due[section] = x.area(0, section);
            boolean more = section == lower || section == upper;
            x.shape(0, section, due[section] + (section == less ? 9 : more ? -2 : 0));
        }
        Check.due("press", 1, x.press(0, 0, 1));
        due[from]--;
        due[less]++;
        Forge.areas("behind a unit to " + less + " with more at " + lower + " and " + upper, x, 0, due);
    }

    /** "one unit after the other": one that has no more than the die then gives none. */
    private static void oneUnitAfterTheOther() {
        AnvilHouse x = forge();
        Forge.warm(x, 0, 1000);
        int a = x.area(0, 0);
        Forge.shapeTo(x, 0, a, a, a - 9, a - 1, a + 9, a - 2, a, a);
        x.press(0, 0, 1);
        Forge.areas("the lower one of two", x, 0, a, a, a, a - 1, a + 1, a, a, a);
        x = forge();
        Forge.warm(x, 0, 1000);
        Forge.shapeTo(x, 0, a, a, a - 9, a - 1, a + 9, a - 2, a, a);
        x.press(0, 0, 3);
        Forge.areas("the upper one twice", x, 0, a, a, a, a - 1, a + 3, a - 2, a, a);
        x = forge();
        Forge.warm(x, 0, 1000);
        Forge.shapeTo(x, 0, a, a, a - 9, a - 1, a + 9, a - 2, a, a);
        x.press(0, 0, 5);
        Forge.areas("then the one that is two away", x, 0, a, a, a - 2, a - 1, a + 5, a - 2, a, a);
    }

    /** Without a section that has more than the die nothing is moved, and nothing is cut. */
    private static void noSectionHasMore() {
        AnvilHouse x = forge();
        Forge.warm(x, 0, 1000);
        int a = x.area(0, 0);
        Forge.shapeTo(x, 0, a, a + 1, 400, a, a, a, a, a + 1);
        Check.due("press", 3, x.press(0, 0, 50));
        Forge.areas("behind it", x, 0, a, a, a, a, a, a, a, a);
        Check.due("the life is less all the same", 99, x.sink(0));
        Check.holds("a minute goes by all the same", x.billetIs(0, 1) < 1000);
    }

    /** "The die's life is less by 1, with a core below 900 by 3": the core ahead of the minute. */
    private static void lifeLessByOneOrThree() {
        AnvilHouse x = forge();
        Forge.warm(x, 0, 900);
        x.press(0, 0, 1);
        Check.holds("the core fell below 900 by its minute", x.billetIs(0, 1) < 900);
        Check.due("the life behind a press at 900", 99, x.sink(0));
        Forge.warm(x, 1, 899);
        x.press(1, 0, 1);
        Check.due("the life behind a press at 899", 97, x.sink(0));
    }

    /** "0 at least". */
    private static void lifeZeroAtLeast() {
        int[][] rows = {{1, 900, 0}, {2, 900, 1}, {1, 899, 0}, {2, 899, 0}, {3, 899, 0}, {4, 899, 1}};
        for (int[] row : rows) {
            AnvilHouse x = forge();
            wearTo(x, 0, row[0]);
            Forge.warm(x, 0, row[1]);
            x.press(0, 0, 1);
            Check.due("the life of " + row[0] + " behind a press at " + row[1], row[2], x.sink(0));
        }
    }

    /** "with a life of 0 it cannot be pressed"; "IllegalStateException if .. the die has no life". */
    private static void noPressWithoutLife() {
        AnvilHouse x = forge();
        x.die();
        wearTo(x, 0, 1);
        Forge.warm(x, 0, 900);
        Check.due("a press with a life of 1", 0, x.press(0, 0, 1));
        Check.unchanged(x, "press", () -> Check.notNow("a press with a life of 0", () -> x.press(0, 0, 1)));
        Check.due("a press into another die", 0, x.press(0, 1, 1));
        x.cool(0, 200);
        Check.notNow("a cold press with a life of 0", () -> x.press(0, 0, 1));
        Check.due("no crack by that", 0, x.billetIs(0, 6));
        Check.due("no life", 0, x.sink(0));
        Forge.warm(x, 0, 900);
        Check.due("a press with a new life", 8, x.press(0, 0, 1));
    }

    /** "to sink it anew makes it 100"; "Returns the life that it had." */
    private static void sinkMakesIt100() {
        AnvilHouse x = forge();
        Check.due("a sink at first", 100, x.sink(0));
        Check.due("a sink of a full life", 100, x.sink(0));
        wearTo(x, 0, 0);
        Check.due("a sink of no life", 0, x.sink(0));
        Check.due("100 anew", 100, x.sink(0));
    }

    /** "With a core below 700 the billet cracks, and nothing else is done: the life stays, too." */
    private static void cracksBelow700() {
        AnvilHouse x = forge();
        Forge.warm(x, 0, 700);
        Check.due("a press at 700", 0, x.press(0, 0, 1));
        Check.due("no crack", 0, x.billetIs(0, 6));
        Check.due("the life behind it", 97, x.sink(0));
        Forge.warm(x, 1, 699);
        String before = Look.billet(x, 1);
        Check.due("a press at 699", AnvilHouse.NONE, x.press(1, 0, 50));
        Check.same("the crack alone", before.replace(" 50 0 0 240", " 50 0 1 240"), Look.billet(x, 1));
        Check.due("a press at 20", AnvilHouse.NONE, x.press(2, 0, 50));
        Check.due("the life behind them", 100, x.sink(0));
    }

    /** "IllegalStateException if it has a crack". */
    private static void noPressWithACrack() {
        AnvilHouse x = forge();
        x.blow(0, 0, AnvilHouse.DRAW, 1);
        Check.notNow("a cold press with a crack", () -> x.press(0, 0, 1));
        Forge.warm(x, 0, 1292);
        Check.unchanged(x, "press", () -> Check.notNow("a press with a crack", () -> x.press(0, 0, 1)));
        Check.due("the life stays", 100, x.sink(0));
    }

    /** "Otherwise a minute goes by then." */
    private static void otherwiseAMinuteGoesBy() {
        AnvilHouse x = forge();
        Forge.warm(x, 0, 1292);
        Forge.warm(x, 1, 1292);
        x.press(0, 0, 1);
        Check.due("the skin", 1170, x.billetIs(0, 0));
        Check.due("the core", 1272, x.billetIs(0, 1));
        Check.due("the core of the other one", 1292, x.billetIs(1, 1));
        AnvilHouse y = forge();
        Forge.warm(y, 0, 700);
        Check.due("a press at 700", 0, y.press(0, 0, 1));
        Check.holds("the core fell below 700 by its minute", y.billetIs(0, 1) < 700);
        Check.due("no crack by that", 0, y.billetIs(0, 6));
    }

    /** "If no section has less than the die by then, all that is more is cut: that is flash." */
    private static void flashIfNoneHasLess() {
        AnvilHouse x = forge();
        Forge.warm(x, 0, 1000);
        int a = x.area(0, 0);
        Forge.shapeTo(x, 0, a, a, a, a, a, a, a, a);
        Check.due("as much as the die", 0, x.press(0, 0, 1));
        Check.due("no flash", 8 * a, x.billetIs(0, 2));
        Forge.shapeTo(x, 0, a, a, a, a - 1, a, a, a, a);
        Check.due("1 more than the die", 0, x.press(0, 0, 1));
        Forge.areas("behind flash of 1", x, 0, a, a, a, a - 1, a, a, a, a);
        Check.holds("it balances", x.balances(0));
        Forge.shapeTo(x, 0, 1, a, a, 1, a, a, a, 1);
        Check.due("more than the die at some", 0, x.press(0, 0, 1));
        Forge.areas("behind flash", x, 0, 1, a, a, 1, a, a, a, 1);
        Check.holds("it balances", x.balances(0));
    }

    /** One section that has 1 less keeps all that is more. */
    private static void noFlashIfOneHasLess() {
        AnvilHouse x = forge();
        Forge.warm(x, 0, 999);
        int a = x.area(0, 0);
        Forge.shapeTo(x, 0, 1, 1, 1, 1, 1, 1, 1, a + 1);
        Check.due("one has less", 1, x.press(0, 0, 1));
        Forge.areas("behind it", x, 0, a, a, a, a, a, a, a, a);
        x.shape(0, 7, a);
        Check.due("none has less", 0, x.press(0, 0, 1));
        Forge.areas("behind flash", x, 0, 1, 1, 1, 1, 1, 1, 1, a);
        Check.holds("it balances", x.balances(0));
    }

    /** "Returns how many sections have less than the die then": 0 to 8, not those that have as much. */
    private static void howManyHaveLess() {
        for (int many = 0; many <= 8; many++) {
            AnvilHouse x = forge();
            Forge.warm(x, 0, 1000);
            int a = x.area(0, 0);
            for (int section = 0; section < 8; section++) {
                x.shape(0, section, section < many ? a + 1 : a);
            }
            Check.due("press", many, x.press(0, 0, 50));
        }
    }
}
