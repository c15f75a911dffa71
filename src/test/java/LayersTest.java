/** Promises 21 to 23: layer, fewest, first. */
public final class LayersTest {
    private static final int FOLD = AnvilHouse.FOLD;
    private static final int TWIST = AnvilHouse.TWIST;
    private static final int CUT = AnvilHouse.CUT;
    /** Fewer acts than these lead from any pattern to any other one, if any do. */
    private static final int FURTHEST = 10;

    private LayersTest() {
    }

    public static void main(String[] args) {
        acts();
        actsNeedWarmth();
        layerRefuses();
        fewestAndFirst();
        fewestAndFirstLead();
        coldIsFine();
        patternsRefuse();
        for (int[] acts : new int[][] {{}, {FOLD}, {TWIST, FOLD}, {TWIST, TWIST, FOLD, TWIST}}) {
            allPatterns(acts);
        }
        Check.end();
    }

    private static AnvilHouse forge() {
        AnvilHouse x = new AnvilHouse();
        x.melt(0);
        x.billet(0, 30);
        return x;
    }

    private static void acts() {
        AnvilHouse x = forge();
        x.billet(0, 30);
        x.heat(0, 1300, 60);
        int[] acts = {TWIST, FOLD, CUT, TWIST, FOLD, TWIST, CUT};
        int[] layers = {225, 43, 178, 101, 57, 114, 39};
        for (int i = 0; i < acts.length; i++) {
            Check.due("act " + i, layers[i], x.layer(0, acts[i]));
            Check.due("the layers behind act " + i, layers[i], x.billetIs(0, 7));
        }
        Check.due("no minute goes by", 1292, x.billetIs(0, 1));
        Check.due("the other billet", 240, x.billetIs(1, 7));
    }

    private static void actsNeedWarmth() {
        AnvilHouse x = forge();
        x.heat(0, 907, 36);
        Check.due("the core", 899, x.billetIs(0, 1));
        Check.unchanged(x, "layer", () -> Check.notNow("layer at 899", () -> x.layer(0, FOLD)));
        x.heat(0, 908, 60);
        Check.due("the core", 900, x.billetIs(0, 1));
        Check.due("layer at 900", 170, x.layer(0, FOLD));
        AnvilHouse y = forge();
        y.blow(0, 0, AnvilHouse.DRAW, 1);
        y.heat(0, 1300, 60);
        Check.due("layer of a cracked one", 15, y.layer(0, CUT));
    }

    private static void layerRefuses() {
        AnvilHouse x = forge();
        x.billet(0, 30);
        x.heat(0, 1300, 60);
        Check.unchanged(x, "layer", () -> {
            Check.noSuch("layer(-1, FOLD)", () -> x.layer(-1, FOLD));
            Check.noSuch("layer(2, 3)", () -> x.layer(2, 3));
            Check.outOfRange("layer(0, -1)", () -> x.layer(0, -1));
            Check.outOfRange("layer(0, 3)", () -> x.layer(0, 3));
            Check.outOfRange("layer(1, 3), cold", () -> x.layer(1, 3));
            Check.notNow("layer(1, CUT), cold", () -> x.layer(1, CUT));
        });
    }

    private static void fewestAndFirst() {
        AnvilHouse x = forge();
        Check.due("none is needed", 0, x.fewest(0, 240));
        Check.due("no first of none", -1, x.first(0, 240));
        Check.due("by a fold", 1, x.fewest(0, 170));
        Check.due("by a fold", FOLD, x.first(0, 170));
        Check.due("by a twist", 1, x.fewest(0, 225));
        Check.due("by a twist", TWIST, x.first(0, 225));
        Check.due("by a cut", 1, x.fewest(0, 15));
        Check.due("by a cut", CUT, x.first(0, 15));
        Check.due("a twist and a cut, or a cut and a twist", 2, x.fewest(0, 30));
        Check.due("the lower first one", TWIST, x.first(0, 30));
        Check.due("a fold and a twist, or a cut and a fold", 2, x.fewest(0, 85));
        Check.due("the lower first one", FOLD, x.first(0, 85));
        Check.due("three of a kind", -1, x.fewest(0, 7));
        Check.due("three of a kind", -1, x.first(0, 7));
        Check.due("none of a kind", -1, x.fewest(0, 0));
        Check.due("all of a kind", -1, x.first(0, 255));
        Check.due("the layers are as they were", 240, x.billetIs(0, 7));
    }

    /** What first says, done again and again, leads to the pattern by as many acts as fewest. */
    private static void fewestAndFirstLead() {
        for (int pattern = 0; pattern < 256; pattern++) {
            if (Integer.bitCount(pattern) != 4) {
                continue;
            }
            AnvilHouse x = forge();
            x.heat(0, 1300, 60);
            int fewest = x.fewest(0, pattern);
            for (int done = 0; done < fewest; done++) {
                Check.due("fewest on the way", fewest - done, x.fewest(0, pattern));
                x.layer(0, x.first(0, pattern));
            }
            if (fewest != AnvilHouse.NONE) {
                Check.due("the pattern that was wanted", pattern, x.billetIs(0, 7));
            }
        }
    }

    private static void coldIsFine() {
        AnvilHouse x = forge();
        x.blow(0, 0, AnvilHouse.DRAW, 1);
        Check.due("fewest when cold and cracked", 1, x.fewest(0, 15));
        Check.due("first when cold and cracked", CUT, x.first(0, 15));
    }

    private static void patternsRefuse() {
        AnvilHouse x = forge();
        Check.unchanged(x, "fewest and first", () -> {
            Check.noSuch("fewest(-1, 0)", () -> x.fewest(-1, 0));
            Check.noSuch("fewest(1, 256)", () -> x.fewest(1, 256));
            Check.outOfRange("fewest(0, -1)", () -> x.fewest(0, -1));
            Check.outOfRange("fewest(0, 256)", () -> x.fewest(0, 256));
            Check.noSuch("first(-1, 0)", () -> x.first(-1, 0));
            Check.noSuch("first(1, -1)", () -> x.first(1, -1));
            Check.outOfRange("first(0, -1)", () -> x.first(0, -1));
            Check.outOfRange("first(0, 256)", () -> x.first(0, 256));
        });
    }

    /** All patterns, against all rows of acts, the short ones first, each length in its order. */
    private static void allPatterns(int[] acts) {
        String layers = "00001111";
        for (int act : acts) {
            layers = behind(layers, act);
        }
        int[] fewest = new int[256];
        int[] first = new int[256];
        java.util.Arrays.fill(fewest, -1);
        java.util.Arrays.fill(first, -1);
        fewest[number(layers)] = 0;
        int rows = 1;
        for (int length = 1; length <= FURTHEST; length++) {
            rows *= 3;
            for (int row = 0; row < rows; row++) {
                int pattern = number(behindRow(layers, row, rows / 3));
                if (fewest[pattern] == -1) {
                    fewest[pattern] = length;
                    first[pattern] = row / (rows / 3);
                    Check.holds("there could be further ones", length < FURTHEST);
                }
            }
        }
        AnvilHouse asked = shaped(acts);
        AnvilHouse other = shaped(acts);
        for (int pattern = 0; pattern < 256; pattern++) {
            Check.due("fewest to " + pattern, fewest[pattern], asked.fewest(0, pattern));
            Check.due("first to " + pattern, first[pattern], other.first(0, pattern));
        }
    }

    private static AnvilHouse shaped(int[] acts) {
        AnvilHouse x = forge();
        x.heat(0, 1300, 60);
        for (int act : acts) {
            x.layer(0, act);
        }
        return x;
    }

    private static String behindRow(String layers, int row, int place) {
        String result = layers;
        for (int left = place; left > 0; left /= 3) {
            result = behind(result, row / left % 3);
        }
        return result;
    }

    /** The layer 0 is the first sign. */
    private static String behind(String layers, int act) {
        if (act == CUT) {
            return layers.substring(4) + layers.substring(0, 4);
        }
        if (act == TWIST) {
            return layers.substring(7) + layers.substring(0, 7);
        }
        StringBuilder result = new StringBuilder();
        for (int i = 0; i < 4; i++) {
            result.append(layers.charAt(i)).append(layers.charAt(7 - i));
        }
        return result.toString();
    }

    private static int number(String layers) {
        return Integer.parseInt(new StringBuilder(layers).reverse().toString(), 2);
    }
}
