import java.util.ArrayList;
import java.util.HashMap;
import java.util.HashSet;
import java.util.List;
import java.util.Map;
import java.util.Set;

/**
 * The document once more, as plain and as wordy as can be, to be compared with the class. What
 * throws in the class answers NO_SUCH, OUT_OF_RANGE or NOT_NOW here.
 */
final class Model {
    static final long NO_SUCH = 1_000_001;
    static final long OUT_OF_RANGE = 1_000_002;
    static final long NOT_NOW = 1_000_003;

    private final int[][] steels = {{3, 60, 4}, {3, 60, 4}, {3, 60, 4}, {3, 60, 4}};
    private final List<Integer> melts = new ArrayList<>();
    private final List<Thing> things = new ArrayList<>();
    private final List<int[]> dies = new ArrayList<>();
    private final Set<String> pieces = new HashSet<>();
    private int loads = 0;
    private final List<Integer> jobs = new ArrayList<>();
    private int furnaceOfJobs = 200;

    /** A billet. */
    private static final class Thing {
        int melt;
        int[] area = new int[8];
        int gone = 0;
        int first;
        double skin = 20;
        double core = 20;
        int grain = 50;
        int heats = 0;
        int laps = 0;
        boolean crack = false;
        String layers = "00001111";
        int load = -1;
        int[] hard = new int[8];
        List<Integer> tempers = new ArrayList<>();
        boolean part = true;

        int volume() {
            int all = 0;
            for (int a : area) {
                all += a;
            }
            return all;
        }

        void follow() {
            core += toward0((skin - core) / 6);
        }

        void minuteOutside() {
            skin -= Math.floor((skin - 20) / 10);
            follow();
        }

        int hardness(int section) {
            if (load == -1) {
                return 0;
            }
            int greatest = 100;
            for (int t : tempers) {
                greatest = Math.max(greatest, t);
            }
            return Math.max(0, hard[section] - (int) Math.floor((greatest - 100) / 20.0));
        }

        int least() {
            int least = 1000;
            for (int i = 0; i < 8; i++) {
                least = Math.min(least, hardness(i));
            }
            return least;
        }
    }

    private static double toward0(double x) {
        return x < 0 ? Math.ceil(x) : Math.floor(x);
    }

    private boolean noBillet(int b) {
        return b < 0 || b >= things.size();
    }

    private static boolean not(int x, int least, int most) {
        return x < least || x > most;
    }

    private static int next(int section) {
        return section == 7 ? 6 : section + 1;
    }

    private static boolean moreThanThrice(int a, int b) {
        return a / 3.0 > b;
    }

    long steel(int s, int heats, int hard, int drop) {
        if (not(s, 0, 3)) return NO_SUCH;
        if (not(heats, 1, 9) || not(hard, 20, 70) || not(drop, 0, 9)) return OUT_OF_RANGE;
        steels[s] = new int[] {heats, hard, drop};
        return 0;
    }

    long melt(int s) {
        if (not(s, 0, 3)) return NO_SUCH;
        if (melts.size() == 20) return NOT_NOW;
        melts.add(s);
        return melts.size() - 1;
    }

    long billet(int melt, int area) {
        if (not(melt, 0, melts.size() - 1)) return NO_SUCH;
        if (not(area, 2, 200)) return OUT_OF_RANGE;
        if (things.size() == 12) return NOT_NOW;
        Thing t = new Thing();
        t.melt = melt;
        for (int i = 0; i < 8; i++) {
            t.area[i] = area;
        }
        t.first = t.volume();
        things.add(t);
        return things.size() - 1;
    }

    long billetIs(int b, int what) {
        if (noBillet(b)) return NO_SUCH;
        if (not(what, 0, 8)) return OUT_OF_RANGE;
        Thing t = things.get(b);
        int bits = Integer.parseInt(new StringBuilder(t.layers).reverse().toString(), 2);
        long[] all = {(long) t.skin, (long) t.core, t.volume(), t.heats, t.grain, t.laps,
            t.crack ? 1 : 0, bits, t.load};
        return all[what];
    }

    long area(int b, int section) {
        if (noBillet(b) || not(section, 0, 7)) return NO_SUCH;
        return things.get(b).area[section];
    }

    long balances(int b) {
        if (noBillet(b)) return NO_SUCH;
        Thing t = things.get(b);
        return t.volume() == t.first - t.gone ? 1 : 0;
    }

    long heat(int b, int furnace, int minutes) {
        if (noBillet(b)) return NO_SUCH;
        if (not(furnace, 200, 1300) || not(minutes, 1, 200)) return OUT_OF_RANGE;
        Thing t = things.get(b);
        if (t.heats >= steels[melts.get(t.melt)][0]) return NOT_NOW;
        t.heats++;
        t.load = -1;
        t.tempers.clear();
        for (int minute = 1; minute <= minutes; minute++) {
            t.skin += toward0((furnace - t.skin) / 4);
            t.follow();
            if (minute % 5 == 0 && t.skin >= 800) {
                for (int i = 0; i < 8; i++) {
                    if (t.area[i] > 1) {
                        t.area[i]--;
                        t.gone++;
                    }
                }
            }
            if (minute % 10 == 0 && t.core >= 900 && t.grain < 200) {
                t.grain++;
            }
        }
        return (long) t.core;
    }

    long cool(int b, int minutes) {
        if (noBillet(b)) return NO_SUCH;
        if (not(minutes, 1, 200)) return OUT_OF_RANGE;
        Thing t = things.get(b);
        for (int i = 0; i < minutes; i++) {
            t.minuteOutside();
        }
        return (long) t.core;
    }

    long blow(int b, int section, int kind, int force) {
        if (noBillet(b) || not(section, 0, 7)) return NO_SUCH;
        if (not(kind, 0, 1) || not(force, 1, 20)) return OUT_OF_RANGE;
        Thing t = things.get(b);
        if (t.crack) return NOT_NOW;
        if (t.core < 700) {
            t.crack = true;
            return -1;
        }
        int from = kind == 0 ? section : next(section);
        int to = kind == 0 ? next(section) : section;
        int moved = 0;
        while (moved < force && t.area[from] > 1) {
            t.area[from]--;
            t.area[to]++;
            moved++;
        }
        if (moreThanThrice(t.area[from], t.area[to]) || moreThanThrice(t.area[to], t.area[from])) {
            t.laps++;
        }
        if (t.core >= 900) {
            t.grain = t.grain - force < 5 ? 5 : t.grain - force;
        }
        t.minuteOutside();
        return moved;
    }

    long cut(int b, int section, int much) {
        if (noBillet(b) || not(section, 0, 7)) return NO_SUCH;
        if (not(much, 1, 200)) return OUT_OF_RANGE;
        Thing t = things.get(b);
        int taken = 0;
        while (taken < much && t.area[section] > 1) {
            t.area[section]--;
            taken++;
        }
        t.gone += taken;
        return taken;
    }

    /** A die's areas, and its life behind them. */
    long die() {
        if (dies.size() == 4) return NOT_NOW;
        dies.add(new int[] {10, 10, 10, 10, 10, 10, 10, 10, 100});
        return dies.size() - 1;
    }

    long shape(int d, int section, int area) {
        if (not(d, 0, dies.size() - 1) || not(section, 0, 7)) return NO_SUCH;
        if (not(area, 1, 400)) return OUT_OF_RANGE;
        int was = dies.get(d)[section];
        dies.get(d)[section] = area;
        return was;
    }

    long sink(int d) {
        if (not(d, 0, dies.size() - 1)) return NO_SUCH;
        int was = dies.get(d)[8];
        dies.get(d)[8] = 100;
        return was;
    }

    long press(int b, int d, int energy) {
        if (noBillet(b) || not(d, 0, dies.size() - 1)) return NO_SUCH;
        if (not(energy, 1, 50)) return OUT_OF_RANGE;
        Thing t = things.get(b);
        int[] die = dies.get(d);
        if (t.crack || die[8] == 0) return NOT_NOW;
        if (t.core < 700) {
            t.crack = true;
            return -1;
        }
        for (int units = (int) Math.floor(energy * t.core / 1000); units > 0; units--) {
            int to = -1;
            for (int i = 7; i >= 0; i--) {
                if (t.area[i] < die[i]) {
                    to = i;
                }
            }
            int from = -1;
            for (int i = 7; i >= 0; i--) {
                if (t.area[i] > die[i] && (from == -1 || Math.abs(i - to) <= Math.abs(from - to))) {
                    from = i;
                }
            }
            if (to == -1 || from == -1) {
                break;
            }
            t.area[from]--;
            t.area[to]++;
        }
        die[8] = Math.max(0, die[8] - (t.core < 900 ? 3 : 1));
        t.minuteOutside();
        int less = 0;
        for (int i = 0; i < 8; i++) {
            less += t.area[i] < die[i] ? 1 : 0;
        }
        for (int i = 0; i < 8 && less == 0; i++) {
            t.gone += t.area[i] - die[i];
            t.area[i] = die[i];
        }
        return less;
    }

    long quench(int set, int medium) {
        if (set == 0 || not(medium, 0, 1)) return OUT_OF_RANGE;
        for (int bit = things.size(); bit < 32; bit++) {
            if ((set & 1 << bit) != 0) return OUT_OF_RANGE;
        }
        for (int b = 0; b < things.size(); b++) {
            if ((set & 1 << b) != 0 && (things.get(b).core < 800 || things.get(b).crack)) return NOT_NOW;
        }
        if (loads == 20) return NOT_NOW;
        for (int b = 0; b < things.size(); b++) {
            if ((set & 1 << b) == 0) {
                continue;
            }
            Thing t = things.get(b);
            int[] steel = steels[melts.get(t.melt)];
            for (int i = 0; i < 8; i++) {
                int number = Math.min(9, t.area[i] / (medium == 0 ? 10 : 20));
                t.hard[i] = Math.max(0, steel[1] - steel[2] * number);
                int near = t.area[next(i)];
                if (medium == 1 && (moreThanThrice(t.area[i], near) || moreThanThrice(near, t.area[i]))) {
                    t.crack = true;
                }
            }
            t.skin = 20;
            t.core = 20;
            t.load = loads;
            t.tempers.clear();
        }
        return loads++;
    }

    long temper(int b, int warmth) {
        if (noBillet(b)) return NO_SUCH;
        if (not(warmth, 100, 700)) return OUT_OF_RANGE;
        Thing t = things.get(b);
        if (t.load == -1) return NOT_NOW;
        t.tempers.add(warmth);
        return t.least();
    }

    long hardness(int b, int section) {
        if (noBillet(b) || not(section, 0, 7)) return NO_SUCH;
        return things.get(b).hardness(section);
    }

    long test(int b) {
        if (noBillet(b)) return NO_SUCH;
        Thing t = things.get(b);
        if (t.load == -1) return NOT_NOW;
        t.part = false;
        pieces.add(t.melt + " in " + t.load);
        return t.least();
    }

    long paper(int b, int least) {
        if (noBillet(b)) return NO_SUCH;
        if (not(least, 0, 70)) return OUT_OF_RANGE;
        Thing t = things.get(b);
        boolean given = t.part && t.load != -1 && !t.crack && t.laps == 0 && t.least() >= least
                && pieces.contains(t.melt + " in " + t.load);
        return given ? t.melt : -1;
    }

    private static String behind(String layers, int act) {
        char[] result = new char[8];
        for (int i = 0; i < 8; i++) {
            int place = act == 1 ? (i + 1) % 8 : act == 2 ? (i + 4) % 8 : i < 4 ? 2 * i : 2 * (7 - i) + 1;
            result[place] = layers.charAt(i);
        }
        return new String(result);
    }

    long layer(int b, int act) {
        if (noBillet(b)) return NO_SUCH;
        if (not(act, 0, 2)) return OUT_OF_RANGE;
        Thing t = things.get(b);
        if (t.core < 900) return NOT_NOW;
        t.layers = behind(t.layers, act);
        return billetIs(b, 7);
    }

    /** For each pattern, as a text, the row of acts that leads to it. */
    private static Map<String, String> rows(String from) {
        Map<String, String> rows = new HashMap<>();
        rows.put(from, "");
        List<String> edge = List.of(from);
        while (!edge.isEmpty()) {
            Map<String, String> found = new HashMap<>();
            for (String pattern : edge) {
                for (int act = 0; act < 3; act++) {
                    String to = behind(pattern, act);
                    String row = rows.get(pattern) + act;
                    if (!rows.containsKey(to) && (!found.containsKey(to) || row.compareTo(found.get(to)) < 0)) {
                        found.put(to, row);
                    }
                }
            }
            rows.putAll(found);
            edge = new ArrayList<>(found.keySet());
        }
        return rows;
    }

    private String rowTo(int b, int pattern) {
        StringBuilder layers = new StringBuilder();
        for (int i = 0; i < 8; i++) {
            layers.append((pattern & 1 << i) != 0 ? '1' : '0');
        }
        return rows(things.get(b).layers).get(layers.toString());
    }

    long fewest(int b, int pattern) {
        if (noBillet(b)) return NO_SUCH;
        if (not(pattern, 0, 255)) return OUT_OF_RANGE;
        String row = rowTo(b, pattern);
        return row == null ? -1 : row.length();
    }

    long first(int b, int pattern) {
        if (noBillet(b)) return NO_SUCH;
        if (not(pattern, 0, 255)) return OUT_OF_RANGE;
        String row = rowTo(b, pattern);
        return row == null || row.isEmpty() ? -1 : row.charAt(0) - '0';
    }

    long job(int warmth) {
        if (not(warmth, 200, 1300)) return OUT_OF_RANGE;
        if (jobs.size() == 12) return NOT_NOW;
        jobs.add(warmth);
        return jobs.size();
    }

    private int changes(List<Integer> plan) {
        int now = furnaceOfJobs;
        int all = 0;
        for (int warmth : plan) {
            all += Math.abs(warmth - now);
            now = warmth;
        }
        return all;
    }

    private List<Integer> plan() {
        List<Integer> rising = new ArrayList<>(jobs);
        java.util.Collections.sort(rising);
        List<Integer> falling = new ArrayList<>(rising);
        java.util.Collections.reverse(falling);
        return changes(falling) < changes(rising) ? falling : rising;
    }

    long planned(int place) {
        if (place < 0) return OUT_OF_RANGE;
        return place < jobs.size() ? plan().get(place) : -1;
    }

    long run() {
        List<Integer> plan = plan();
        int changes = changes(plan);
        if (!plan.isEmpty()) {
            furnaceOfJobs = plan.get(plan.size() - 1);
        }
        jobs.clear();
        return changes;
    }
}
