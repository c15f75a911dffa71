import java.util.ArrayList;
import java.util.List;

/**
 * The edges that 'Layers' and the promises 21 to 23 name, a test for each sentence, which stands
 * above it.
 */
public final class EdgesOfLayersTest {
    private static final int FOLD = AnvilHouse.FOLD;
    private static final int TWIST = AnvilHouse.TWIST;
    private static final int CUT = AnvilHouse.CUT;

    /** For each pattern the least row of acts of the fewest that leads to it from 240. */
    private static final String[] ROWS = rowsFrom(240);

    private EdgesOfLayersTest() {
    }

    public static void main(String[] args) {
        layersAtFirst();
        foldPutsEachLayer();
        twistPutsTheLastAtTheFirst();
        cutChangesTheFirstAndTheLastFour();
        allActsOnAllPatterns();
        actFoldToCut();
        coreBelow900();
        patternZeroTo255();
        noneIsNeeded();
        noneDo();
        oneActOrTheFurthest();
        theLowerFirstOne();
        rowsFromEachPattern();
        Check.end();
    }

    private static AnvilHouse forge() {
        AnvilHouse x = Forge.of(30);
        Forge.warm(x, 0, 900);
        return x;
    }

    /** A billet with this pattern, made by the row of acts that leads to it. */
    private static AnvilHouse with(int pattern) {
        AnvilHouse x = forge();
        for (int act : ROWS[pattern].toCharArray()) {
            x.layer(0, act - '0');
        }
        Check.due("the pattern as wanted", pattern, x.billetIs(0, 7));
        return x;
    }

    private static int behind(int pattern, int act) {
        int result = 0;
        for (int i = 0; i < 8; i++) {
            int fold = i < 4 ? 2 * i : 2 * (7 - i) + 1;
            int place = act == FOLD ? fold : act == TWIST ? i == 7 ? 0 : i + 1 : i < 4 ? i + 4 : i - 4;
            result += (pattern >> i) % 2 << place;
        }
        return result;
    }

    /** Each round makes all rows longer by one, in their order: so the first one that is found is the least. */
    private static String[] rowsFrom(int start) {
        String[] rows = new String[256];
        rows[start] = "";
        List<String> round = List.of("");
        for (int length = 0; length < 12; length++) {
            List<String> next = new ArrayList<>();
            for (String row : round) {
                for (int act = 0; act < 3; act++) {
                    int pattern = start;
                    for (char done : (row + act).toCharArray()) {
                        pattern = behind(pattern, done - '0');
                    }
                    if (rows[pattern] == null) {
                        rows[pattern] = row + act;
                        next.add(row + act);
                    }
                }
            }
            round = next;
        }
        return rows;
    }

    /** "0, 0, 0, 0, 1, 1, 1, 1 at first, as bits, the layer 0 lowest: 240." */
    private static void layersAtFirst() {
        AnvilHouse x = forge();
        Check.due("the layers at first", 240, x.billetIs(0, 7));
        Check.due("fewest to them", 0, x.fewest(0, 240));
        Check.holds("15 is the other way round", x.fewest(0, 15) != 0);
    }

    /** "To FOLD puts the layer i at 2 i, and the layer 7 less i at 2 i and 1, for i from 0 to 3". */
    private static void foldPutsEachLayer() {
        Check.due("the upper four", 0b10101010, with(0b11110000).layer(0, FOLD));
        Check.due("the lower four", 0b01010101, with(0b00001111).layer(0, FOLD));
        Check.due("the first and the last three", 0b00101011, with(0b11100001).layer(0, FOLD));
        Check.due("the inner four", 0b11110000, with(0b00111100).layer(0, FOLD));
        Check.due("the outer four", 0b00001111, with(0b11000011).layer(0, FOLD));
    }

    /** "to TWIST puts each at the next place, the last one at the first". */
    private static void twistPutsTheLastAtTheFirst() {
        int[] due = {0b11100001, 0b11000011, 0b10000111, 0b00001111, 0b00011110, 0b00111100, 0b01111000, 0b11110000};
        AnvilHouse x = forge();
        for (int i = 0; i < due.length; i++) {
            Check.due("twist " + (i + 1), due[i], x.layer(0, TWIST));
        }
    }

    /** "to CUT lets the first four and the last four change their places". */
    private static void cutChangesTheFirstAndTheLastFour() {
        Check.due("at first", 0b00001111, with(0b11110000).layer(0, CUT));
        Check.due("back", 0b11110000, with(0b00001111).layer(0, CUT));
        Check.due("each in its order", 0b00011110, with(0b11100001).layer(0, CUT));
        Check.due("as they are", 0b10101010, with(0b10101010).layer(0, CUT));
    }

    /** All three acts, on each pattern that a billet can have. */
    private static void allActsOnAllPatterns() {
        int count = 0;
        for (int pattern = 0; pattern < 256; pattern++) {
            if (ROWS[pattern] != null) {
                count++;
                for (int act = FOLD; act <= CUT; act++) {
                    AnvilHouse x = with(pattern);
                    Check.due("act " + act + " on " + pattern, behind(pattern, act), x.layer(0, act));
                    Check.due("the layers then", behind(pattern, act), x.billetIs(0, 7));
                }
            }
        }
        Check.holds("many patterns", count > 30);
    }

    /** "act: FOLD to CUT". */
    private static void actFoldToCut() {
        AnvilHouse x = forge();
        for (int act : new int[] {-1, 3, Integer.MIN_VALUE, Integer.MAX_VALUE}) {
            Check.outOfRange("the act " + act, () -> x.layer(0, act));
        }
        Check.due("the layers behind what was refused", 240, x.billetIs(0, 7));
        Check.due("the act 0", 170, x.layer(0, 0));
        Check.due("the act 1", 85, x.layer(0, 1));
        Check.due("the act 2", 85, x.layer(0, 2));
    }

    /** "IllegalStateException if its core is below 900". */
    private static void coreBelow900() {
        AnvilHouse x = Forge.of(30, 30);
        Forge.warm(x, 0, 900);
        Forge.warm(x, 1, 899);
        Check.due("an act at 900", 15, x.layer(0, CUT));
        for (int act = FOLD; act <= CUT; act++) {
            int done = act;
            Check.notNow("the act " + act + " at 899", () -> x.layer(1, done));
        }
        Check.due("the layers at 899", 240, x.billetIs(1, 7));
        Check.due("the core: an act takes no minute", 900, x.billetIs(0, 1));
    }

    /** "pattern: 0 to 255", of fewest and of first. */
    private static void patternZeroTo255() {
        AnvilHouse x = forge();
        Check.due("fewest to 0", AnvilHouse.NONE, x.fewest(0, 0));
        Check.due("fewest to 255", AnvilHouse.NONE, x.fewest(0, 255));
        Check.due("first to 0", AnvilHouse.NONE, x.first(0, 0));
        Check.due("first to 255", AnvilHouse.NONE, x.first(0, 255));
        for (int pattern : new int[] {-1, 256, 240 + 256, 240 - 256, Integer.MIN_VALUE, Integer.MAX_VALUE}) {
            Check.outOfRange("fewest to " + pattern, () -> x.fewest(0, pattern));
            Check.outOfRange("first to " + pattern, () -> x.first(0, pattern));
        }
    }

    /** "NONE if .. none is needed". */
    private static void noneIsNeeded() {
        for (int pattern = 0; pattern < 256; pattern++) {
            if (ROWS[pattern] != null) {
                AnvilHouse x = with(pattern);
                Check.due("fewest from " + pattern + " to itself", 0, x.fewest(0, pattern));
                Check.due("first from " + pattern + " to itself", AnvilHouse.NONE, x.first(0, pattern));
            }
        }
    }

    /** "NONE if none do": no act changes how many layers are of a kind. */
    private static void noneDo() {
        AnvilHouse x = forge();
        AnvilHouse y = forge();
        for (int pattern = 0; pattern < 256; pattern++) {
            if (Integer.bitCount(pattern) != 4) {
                Check.due("fewest to " + pattern, AnvilHouse.NONE, x.fewest(0, pattern));
                Check.due("first to " + pattern, AnvilHouse.NONE, y.first(0, pattern));
            }
        }
    }

    /** "Returns how few acts": from one act to the furthest pattern. */
    private static void oneActOrTheFurthest() {
        int furthest = 240;
        for (int pattern = 0; pattern < 256; pattern++) {
            if (ROWS[pattern] != null && ROWS[pattern].length() > ROWS[furthest].length()) {
                furthest = pattern;
            }
        }
        AnvilHouse x = forge();
        Check.due("fewest to the furthest one", ROWS[furthest].length(), x.fewest(0, furthest));
        for (int left = ROWS[furthest].length(); left > 0; left--) {
            Check.due("fewest", left, x.fewest(0, furthest));
            x.layer(0, x.first(0, furthest));
        }
        Check.due("fewest behind them", 0, x.fewest(0, furthest));
        for (int act = FOLD; act <= CUT; act++) {
            AnvilHouse y = forge();
            Check.due("fewest to what the act " + act + " makes", 1, y.fewest(0, behind(240, act)));
            Check.due("first to it", act, y.first(0, behind(240, act)));
        }
    }

    /** "of several rows of acts as few the one with the lower first act is taken, then with the lower second one". */
    private static void theLowerFirstOne() {
        for (int pattern = 0; pattern < 256; pattern++) {
            if (ROWS[pattern] != null) {
                AnvilHouse x = forge();
                StringBuilder row = new StringBuilder();
                for (int acts = x.fewest(0, pattern); acts > 0; acts--) {
                    int act = x.first(0, pattern);
                    row.append(act);
                    x.layer(0, act);
                }
                Check.same("the row to " + pattern, ROWS[pattern], row.toString());
            }
        }
    }

    /** Fewest and first lead from the layers of the billet, whatever they are. */
    private static void rowsFromEachPattern() {
        for (int start = 0; start < 256; start++) {
            if (ROWS[start] != null) {
                String[] rows = rowsFrom(start);
                AnvilHouse x = with(start);
                AnvilHouse y = with(start);
                for (int pattern = 0; pattern < 256; pattern++) {
                    int fewest = rows[pattern] == null ? -1 : rows[pattern].length();
                    int first = fewest < 1 ? -1 : rows[pattern].charAt(0) - '0';
                    Check.due("fewest from " + start + " to " + pattern, fewest, x.fewest(0, pattern));
                    Check.due("first from " + start + " to " + pattern, first, y.first(0, pattern));
                }
            }
        }
    }
}
