/**
 * The edges that 'What it is', 'Steels, billets' and the promises 1 to 7 name, a test for each
 * sentence, which stands above it.
 */
public final class EdgesOfSteelsTest {
    private EdgesOfSteelsTest() {
    }

    public static void main(String[] args) {
        the512thCall();
        beginsWithout();
        steelsZeroToThree();
        heatsOneToNine();
        threeHeatsAtFirst();
        hardnessTwentyToSeventy();
        sixtyAtFirst();
        dropZeroToNine();
        fourAtFirst();
        fromNowOn();
        twentyMelts();
        twelveBillets();
        areaTwoToTwoHundred();
        sectionsZeroToSeven();
        volumeIsAllAreas();
        asAtFirst();
        neighbourOfTheLast();
        whatZeroToEight();
        loadNoneWithout();
        balancesAtItsEnds();
        Check.end();
    }

    /** "An object is used for at most 512 calls after it has been made". */
    private static void the512thCall() {
        AnvilHouse x = new AnvilHouse();
        x.melt(0);
        x.billet(0, 200);
        for (int call = 3; call <= 511; call++) {
            Check.due("call " + call, 1, x.cut(0, call % 8, 1));
        }
        Check.due("call 512", 1600 - 509, x.billetIs(0, 2));
    }

    /** "Begins without melts, billets and dies." */
    private static void beginsWithout() {
        AnvilHouse x = new AnvilHouse();
        Check.noSuch("the melt 0", () -> x.billet(0, 2));
        Check.noSuch("the billet 0", () -> x.area(0, 0));
        Check.noSuch("the die 0", () -> x.shape(0, 0, 10));
        Check.outOfRange("a set of the billet 0", () -> x.quench(1, AnvilHouse.OIL));
        x.melt(0);
        Check.noSuch("the billet 0, with a melt", () -> x.area(0, 0));
        x.billet(0, 2);
        Check.due("the first billet is there", 2, x.area(0, 0));
        Check.noSuch("a press into the die 0", () -> x.press(0, 0, 1));
        x.die();
        Check.due("the first die is there", 100, x.sink(0));
    }

    /** "There are the steels 0 to 3". */
    private static void steelsZeroToThree() {
        AnvilHouse x = new AnvilHouse();
        x.steel(0, 9, 60, 4);
        x.steel(3, 9, 60, 4);
        Check.due("a melt of the steel 0", 0, x.melt(0));
        Check.due("a melt of the steel 3", 1, x.melt(3));
        Check.noSuch("the steel -1", () -> x.steel(-1, 9, 60, 4));
        Check.noSuch("the steel 4", () -> x.steel(4, 9, 60, 4));
        Check.noSuch("a melt of the steel -1", () -> x.melt(-1));
        Check.noSuch("a melt of the steel 4", () -> x.melt(4));
        Check.due("a melt behind what was refused", 2, x.melt(1));
    }

    /** "each with how often it may be heated, 1 to 9". */
    private static void heatsOneToNine() {
        for (int heats = 1; heats <= 9; heats++) {
            AnvilHouse x = Forge.of(2);
            x.steel(0, heats, 60, 4);
            for (int heat = 1; heat <= heats; heat++) {
                x.heat(0, 200, 1);
                Check.due("heats", heat, x.billetIs(0, 3));
            }
            Check.notNow("a heat more than " + heats, () -> x.heat(0, 200, 1));
            Check.due("heats behind the refused one", heats, x.billetIs(0, 3));
        }
        AnvilHouse x = Forge.of(2);
        Check.outOfRange("0 heats", () -> x.steel(0, 0, 60, 4));
        Check.outOfRange("10 heats", () -> x.steel(0, 10, 60, 4));
    }

    /** "how often it may be heated, .. 3 at first". */
    private static void threeHeatsAtFirst() {
        for (int steel = 0; steel < 4; steel++) {
            AnvilHouse x = new AnvilHouse();
            x.melt(steel);
            x.billet(0, 2);
            x.heat(0, 200, 1);
            x.heat(0, 200, 1);
            x.heat(0, 200, 1);
            Check.notNow("a fourth heat of the steel " + steel, () -> x.heat(0, 200, 1));
        }
    }

    /** "a hardness, 20 to 70". */
    private static void hardnessTwentyToSeventy() {
        AnvilHouse x = Forge.of(30, 30);
        Forge.warm(x, 0, 800);
        Forge.warm(x, 1, 800);
        Check.outOfRange("a hardness of 19", () -> x.steel(0, 9, 19, 0));
        Check.outOfRange("a hardness of 71", () -> x.steel(0, 9, 71, 0));
        x.steel(0, 9, 20, 0);
        x.quench(1, AnvilHouse.OIL);
        Check.due("a hardness of 20", 20, x.hardness(0, 0));
        x.steel(0, 9, 70, 0);
        x.quench(2, AnvilHouse.OIL);
        Check.due("a hardness of 70", 70, x.hardness(1, 0));
    }

    /** "a hardness, .. 60 at first": an area of 9 does not drop. */
    private static void sixtyAtFirst() {
        for (int steel = 0; steel < 4; steel++) {
            Check.due("the hardness at first of the steel " + steel, 60, atFirst(steel, 9));
        }
    }

    /** "a drop, 0 to 9". */
    private static void dropZeroToNine() {
        AnvilHouse x = Forge.of(30, 30);
        Forge.warm(x, 0, 800);
        Forge.warm(x, 1, 800);
        Forge.cutTo(x, 0, 10, 0, 10);
        Forge.cutTo(x, 1, 10, 0, 10);
        Check.outOfRange("a drop of -1", () -> x.steel(0, 9, 60, -1));
        Check.outOfRange("a drop of 10", () -> x.steel(0, 9, 60, 10));
        x.steel(0, 9, 60, 0);
        x.quench(1, AnvilHouse.OIL);
        Check.due("a drop of 0", 60, x.hardness(0, 0));
        x.steel(0, 9, 60, 9);
        x.quench(2, AnvilHouse.OIL);
        Check.due("a drop of 9", 51, x.hardness(1, 0));
    }

    /** "and a drop, .. 4 at first": an area of 10 drops once. */
    private static void fourAtFirst() {
        for (int steel = 0; steel < 4; steel++) {
            Check.due("the drop at first of the steel " + steel, 56, atFirst(steel, 10));
        }
    }

    private static int atFirst(int steel, int area) {
        AnvilHouse x = new AnvilHouse();
        x.melt(steel);
        x.billet(0, 30);
        Forge.warm(x, 0, 800);
        Forge.cutTo(x, 0, area, 0, area);
        x.quench(1, AnvilHouse.OIL);
        return x.hardness(0, 0);
    }

    /** "Tells a steel, for what is done from now on." */
    private static void fromNowOn() {
        AnvilHouse x = Forge.of(30, 30);
        Forge.warm(x, 0, 800);
        x.quench(1, AnvilHouse.OIL);
        Check.due("by the steel of then", 52, x.hardness(0, 0));
        x.steel(0, 1, 70, 0);
        Check.due("what was done stays", 52, x.hardness(0, 0));
        Check.due("what was done stays, tempered, too", 51, x.temper(0, 120));
        Check.notNow("a heat more than it may have from now on", () -> x.heat(0, 200, 1));
        Forge.warm(x, 1, 800);
        x.quench(2, AnvilHouse.OIL);
        Check.due("by the steel of now", 70, x.hardness(1, 0));
        x.steel(0, 2, 70, 0);
        x.heat(0, 200, 1);
        Check.due("heated again, as it may be from now on", 2, x.billetIs(0, 3));
    }

    /** "Melts are numbered from 0, at most 20"; "IllegalStateException if there are 20". */
    private static void twentyMelts() {
        AnvilHouse x = new AnvilHouse();
        for (int melt = 0; melt < 20; melt++) {
            int next = melt;
            Check.noSuch("a billet of the melt " + melt + " ahead of it", () -> x.billet(next, 10));
            Check.due("a melt", melt, x.melt(3));
        }
        Check.notNow("the 21st melt", () -> x.melt(3));
        Check.noSuch("a billet of the melt 20", () -> x.billet(20, 10));
        Check.noSuch("a billet of the melt -1", () -> x.billet(-1, 10));
        Check.due("a billet of the melt 19", 0, x.billet(19, 10));
        Check.due("a billet of the melt 0", 1, x.billet(0, 10));
    }

    /** "Billets are numbered from 0, at most 12"; "IllegalStateException if there are 12". */
    private static void twelveBillets() {
        AnvilHouse x = Forge.of();
        for (int billet = 0; billet < 12; billet++) {
            int next = billet;
            Check.noSuch("the billet " + billet + " ahead of it", () -> x.billetIs(next, 0));
            Check.due("a billet", billet, x.billet(0, 10));
        }
        Check.notNow("the 13th billet", () -> x.billet(0, 10));
        Check.noSuch("the billet 12", () -> x.billetIs(12, 0));
        Check.noSuch("the billet -1", () -> x.billetIs(-1, 0));
        Check.due("the billet 11", 80, x.billetIs(11, 2));
    }

    /** "area: 2 to 200: of each section". */
    private static void areaTwoToTwoHundred() {
        AnvilHouse x = Forge.of();
        Check.outOfRange("an area of 1", () -> x.billet(0, 1));
        Check.outOfRange("an area of 0", () -> x.billet(0, 0));
        Check.outOfRange("an area of 201", () -> x.billet(0, 201));
        Check.due("an area of 2", 0, x.billet(0, 2));
        Check.due("an area of 200", 1, x.billet(0, 200));
        Forge.areas("of 2", x, 0, 2, 2, 2, 2, 2, 2, 2, 2);
        Forge.areas("of 200", x, 1, 200, 200, 200, 200, 200, 200, 200, 200);
    }

    /** "with the sections 0 to 7, each of an area, the same at first". */
    private static void sectionsZeroToSeven() {
        AnvilHouse x = Forge.of(30);
        for (int section = 0; section < 8; section++) {
            Check.due("the area at first", 30, x.area(0, section));
            Check.due("the hardness at first", 0, x.hardness(0, section));
        }
        for (int section : new int[] {-1, 8, Integer.MIN_VALUE, Integer.MAX_VALUE}) {
            Check.noSuch("the area of the section " + section, () -> x.area(0, section));
            Check.noSuch("the hardness of the section " + section, () -> x.hardness(0, section));
            Check.noSuch("a cut of the section " + section, () -> x.cut(0, section, 1));
            Check.noSuch("a blow on the section " + section, () -> x.blow(0, section, AnvilHouse.DRAW, 1));
        }
    }

    /** "its volume is all areas together": from 8 on, with 1 at each section. */
    private static void volumeIsAllAreas() {
        AnvilHouse x = Forge.of(2, 200);
        Check.due("the least volume at first", 16, x.billetIs(0, 2));
        Check.due("the most volume at first", 1600, x.billetIs(1, 2));
        for (int section = 0; section < 8; section++) {
            x.cut(0, section, 200);
            x.cut(1, section, 200);
        }
        Check.due("the least volume", 8, x.billetIs(0, 2));
        Check.due("the least volume", 8, x.billetIs(1, 2));
    }

    /** "It has a skin and a core, of 20 at first, and a grain, 50 at first." */
    private static void asAtFirst() {
        AnvilHouse x = Forge.of(10);
        int[] due = {20, 20, 80, 0, 50, 0, 0, 240, -1};
        for (int what = 0; what < due.length; what++) {
            Check.due("billetIs(0, " + what + ") at first", due[what], x.billetIs(0, what));
        }
    }

    /** "The neighbour of a section is the next one, of the last one the one ahead." */
    private static void neighbourOfTheLast() {
        for (int section = 0; section < 8; section++) {
            int neighbour = section < 7 ? section + 1 : 6;
            AnvilHouse x = Forge.of(30);
            Forge.warm(x, 0, 1292);
            int[] areas = {18, 18, 18, 18, 18, 18, 18, 18};
            Check.due("drawn", 2, x.blow(0, section, AnvilHouse.DRAW, 2));
            areas[section] -= 2;
            areas[neighbour] += 2;
            Forge.areas("drawn from " + section, x, 0, areas);
            Check.due("upset", 5, x.blow(0, section, AnvilHouse.UPSET, 5));
            areas[section] += 5;
            areas[neighbour] -= 5;
            Forge.areas("upset at " + section, x, 0, areas);
        }
    }

    /** "what: 0 to 8". */
    private static void whatZeroToEight() {
        AnvilHouse x = Forge.of(10);
        Check.due("billetIs(0, 0)", 20, x.billetIs(0, 0));
        Check.due("billetIs(0, 8)", -1, x.billetIs(0, 8));
        for (int what : new int[] {-1, 9, Integer.MIN_VALUE, Integer.MAX_VALUE}) {
            Check.outOfRange("billetIs(0, " + what + ")", () -> x.billetIs(0, what));
        }
    }

    /** "6 whether it has a crack, 1 or 0; .. 8 its load, NONE without": the load 0 is one. */
    private static void loadNoneWithout() {
        AnvilHouse x = Forge.of(30);
        Check.due("no load", AnvilHouse.NONE, x.billetIs(0, 8));
        Check.due("no crack", 0, x.billetIs(0, 6));
        Forge.warm(x, 0, 800);
        Check.due("no load ahead of the quench", AnvilHouse.NONE, x.billetIs(0, 8));
        x.quench(1, AnvilHouse.OIL);
        Check.due("the load 0", 0, x.billetIs(0, 8));
        x.blow(0, 0, AnvilHouse.DRAW, 1);
        Check.due("a crack", 1, x.billetIs(0, 6));
        Check.due("the load of a cracked one", 0, x.billetIs(0, 8));
    }

    /** "whether the volume .. is what it was at first, less scale, flash and what was cut": to the last unit. */
    private static void balancesAtItsEnds() {
        AnvilHouse x = Forge.of(2, 200);
        x.heat(0, 1300, 200);
        Check.due("all that scale can take", 8, x.billetIs(0, 2));
        Check.holds("it balances", x.balances(0));
        x.cut(0, 0, 200);
        Check.holds("it balances behind a cut of nothing", x.balances(0));
        Forge.warm(x, 1, 1292);
        x.die();
        Forge.shapeTo(x, 0, 1, 1, 1, 1, 1, 1, 1, 1);
        Check.due("a press", 0, x.press(1, 0, 50));
        Check.due("all that flash can take", 8, x.billetIs(1, 2));
        Check.holds("it balances", x.balances(1));
    }
}
