import java.util.ArrayList;
import java.util.Arrays;

/**
 * A forge: steels, melts and billets, what warmth, blows, dies, quenching and tempering make of
 * them, layers with the fewest acts to a pattern, papers, and the plan of a furnace.
 */
public final class AnvilHouse {
    /** There is none. */
    public static final int NONE = -1;
    /** Kinds of blows. */
    public static final int DRAW = 0, UPSET = 1;
    /** Media. */
    public static final int OIL = 0, WATER = 1;
    /** What is done with layers. */
    public static final int FOLD = 0, TWIST = 1, CUT = 2;

    private static final int STEELS = 4;
    private static final int SECTIONS = 8;
    private static final int MOST_MELTS = 20;
    private static final int MOST_BILLETS = 12;
    private static final int MOST_DIES = 4;
    private static final int MOST_LOADS = 20;
    private static final int MOST_JOBS = 12;
    private static final int PATTERNS = 256;
    private static final int FIRST_PATTERN = 240;
    private static final int ROOM_WARMTH = 20;
    /** A core below this cracks under a blow or a press. */
    private static final int FORGING_WARMTH = 700;
    /** A core below this cannot be quenched. */
    private static final int QUENCHING_WARMTH = 800;
    /** A skin below this makes no scale. */
    private static final int SCALING_WARMTH = 800;
    /** From this core on the grain changes, layers can be worked, and a die wears the least. */
    private static final int WELDING_WARMTH = 900;
    /** A temper at this warmth takes nothing. */
    private static final int LEAST_TEMPER = 100;

    private final Steel[] steels = new Steel[STEELS];
    /** The steel of each melt. */
    private final ArrayList<Steel> melts = new ArrayList<>();
    private final ArrayList<Billet> billets = new ArrayList<>();
    private final ArrayList<Die> dies = new ArrayList<>();
    /** For each load the melts of which it has a test piece, as bits. */
    private final int[] testedMelts = new int[MOST_LOADS];
    private int loads;
    private final Patterns patterns = new Patterns();
    private final Plan plan = new Plan();

    /** Begins without melts, billets and dies. */
    public AnvilHouse() {
        for (int i = 0; i < STEELS; i++) {
            steels[i] = new Steel();
        }
    }

    // ---- steels, billets

    public void steel(int steel, int heats, int hard, int drop)
            throws IndexOutOfBoundsException, IllegalArgumentException {
        Steel told = steelAt(steel);
        if (heats < 1 || heats > 9) {
            throw new IllegalArgumentException("heats are 1 to 9");
        }
        if (hard < 20 || hard > 70) {
            throw new IllegalArgumentException("a hardness is 20 to 70");
        }
        if (drop < 0 || drop > 9) {
            throw new IllegalArgumentException("a drop is 0 to 9");
        }
        told.mostHeats = heats;
        told.hard = hard;
        told.drop = drop;
    }

    public int melt(int steel) throws IndexOutOfBoundsException, IllegalStateException {
        Steel of = steelAt(steel);
        int number = melts.size();
        if (number >= MOST_MELTS) {
            throw new IllegalStateException("there are 20 melts");
        }
        melts.add(of);
        return number;
    }

    public int billet(int melt, int area)
            throws IndexOutOfBoundsException, IllegalArgumentException, IllegalStateException {
        if (melt < 0 || melt >= melts.size()) {
            throw new IndexOutOfBoundsException("no such melt");
        }
        if (area < 2 || area > 200) {
            throw new IllegalArgumentException("an area is 2 to 200");
        }
        int number = billets.size();
        if (number >= MOST_BILLETS) {
            throw new IllegalStateException("there are 12 billets");
        }
        billets.add(new Billet(melt, melts.get(melt), area));
        return number;
    }

    public int billetIs(int billet, int what)
            throws IndexOutOfBoundsException, IllegalArgumentException {
        Billet it = billetAt(billet);
        switch (what) {
            case 0: return it.skin;
            case 1: return it.core;
            case 2: return it.volume();
            case 3: return it.heats;
            case 4: return it.grain;
            case 5: return it.laps;
            case 6: return it.cracked ? 1 : 0;
            case 7: return it.layers;
            case 8: return it.load;
            default: throw new IllegalArgumentException("what is asked is 0 to 8");
        }
    }

    public int area(int billet, int section) throws IndexOutOfBoundsException {
        Billet it = billetAt(billet);
        refuseNoSection(section);
        return it.areas[section];
    }

    public boolean balances(int billet) throws IndexOutOfBoundsException {
        Billet it = billetAt(billet);
        return it.volume() == it.firstVolume - it.scale - it.flash - it.cutOff;
    }

    // ---- warmth, blows

    public int heat(int billet, int furnace, int minutes)
            throws IndexOutOfBoundsException, IllegalArgumentException, IllegalStateException {
        Billet it = billetAt(billet);
        if (furnace < 200 || furnace > 1300) {
            throw new IllegalArgumentException("a furnace is of 200 to 1300");
        }
        refuseMinutes(minutes);
        if (it.heats >= it.steel.mostHeats) {
            throw new IllegalStateException("the billet may not be heated any more");
        }
        it.standInFurnace(furnace, minutes);
        return it.core;
    }

    public int cool(int billet, int minutes)
            throws IndexOutOfBoundsException, IllegalArgumentException {
        Billet it = billetAt(billet);
        refuseMinutes(minutes);
        for (int minute = 1; minute <= minutes; minute++) {
            it.standOutside();
        }
        return it.core;
    }

    public int blow(int billet, int section, int kind, int force)
            throws IndexOutOfBoundsException, IllegalArgumentException, IllegalStateException {
        Billet it = billetAt(billet);
        refuseNoSection(section);
        if (kind != DRAW && kind != UPSET) {
            throw new IllegalArgumentException("a blow is DRAW or UPSET");
        }
        if (force < 1 || force > 20) {
            throw new IllegalArgumentException("a force is 1 to 20");
        }
        if (it.cracked) {
            throw new IllegalStateException("the billet has a crack");
        }
        int other = neighbourOf(section);
        if (kind == DRAW) {
            return it.strike(section, other, force);
        }
        return it.strike(other, section, force);
    }

    public int cut(int billet, int section, int much)
            throws IndexOutOfBoundsException, IllegalArgumentException {
        Billet it = billetAt(billet);
        refuseNoSection(section);
        if (much < 1 || much > 200) {
            throw new IllegalArgumentException("1 to 200 can be cut");
        }
        int taken = Math.min(much, it.areas[section] - 1);
        it.areas[section] -= taken;
        it.cutOff += taken;
        return taken;
    }

    // ---- dies

    public int die() throws IllegalStateException {
        int number = dies.size();
        if (number >= MOST_DIES) {
            throw new IllegalStateException("there are 4 dies");
        }
        dies.add(new Die());
        return number;
    }

    public int shape(int die, int section, int area)
            throws IndexOutOfBoundsException, IllegalArgumentException {
        Die it = dieAt(die);
        refuseNoSection(section);
        if (area < 1 || area > 400) {
            throw new IllegalArgumentException("an area of a die is 1 to 400");
        }
        int before = it.areas[section];
        it.areas[section] = area;
        return before;
    }

    public int sink(int die) throws IndexOutOfBoundsException {
        Die it = dieAt(die);
        int before = it.life;
        it.life = Die.FULL_LIFE;
        return before;
    }

    public int press(int billet, int die, int energy)
            throws IndexOutOfBoundsException, IllegalArgumentException, IllegalStateException {
        Billet it = billetAt(billet);
        Die into = dieAt(die);
        if (energy < 1 || energy > 50) {
            throw new IllegalArgumentException("an energy is 1 to 50");
        }
        if (it.cracked) {
            throw new IllegalStateException("the billet has a crack");
        }
        if (into.life <= 0) {
            throw new IllegalStateException("the die has no life");
        }
        return it.squeezeInto(into, energy);
    }

    // ---- quenching, papers

    public int quench(int billets, int medium)
            throws IllegalArgumentException, IllegalStateException {
        if (billets == 0) {
            throw new IllegalArgumentException("the set is empty");
        }
        // Unsigned, so that the sign is a billet, too, which is never there.
        if (billets >>> this.billets.size() != 0) {
            throw new IllegalArgumentException("one of the set is not there");
        }
        if (medium != OIL && medium != WATER) {
            throw new IllegalArgumentException("a medium is OIL or WATER");
        }
        if (!canBeQuenched(billets)) {
            throw new IllegalStateException("one is not warm enough or has a crack");
        }
        if (loads >= MOST_LOADS) {
            throw new IllegalStateException("there are 20 loads");
        }
        int load = loads;
        loads++;
        for (int i = 0; i < this.billets.size(); i++) {
            if (isInSet(billets, i)) {
                this.billets.get(i).plunge(load, medium == WATER);
            }
        }
        return load;
    }

    public int temper(int billet, int warmth)
            throws IndexOutOfBoundsException, IllegalArgumentException, IllegalStateException {
        Billet it = billetAt(billet);
        if (warmth < LEAST_TEMPER || warmth > 700) {
            throw new IllegalArgumentException("a temper is at 100 to 700");
        }
        if (!isLoad(it.load)) {
            throw new IllegalStateException("not quenched since the latest heat");
        }
        it.tempered = Math.max(it.tempered, warmth);
        return it.leastHardness();
    }

    public int hardness(int billet, int section) throws IndexOutOfBoundsException {
        Billet it = billetAt(billet);
        refuseNoSection(section);
        return it.hardnessAt(section);
    }

    public int test(int billet) throws IndexOutOfBoundsException, IllegalStateException {
        Billet it = billetAt(billet);
        if (!isLoad(it.load)) {
            throw new IllegalStateException("not quenched since the latest heat");
        }
        testedMelts[it.load] |= 1 << it.melt;
        it.part = false;
        return it.leastHardness();
    }

    public int paper(int billet, int least)
            throws IndexOutOfBoundsException, IllegalArgumentException {
        Billet it = billetAt(billet);
        if (least < 0 || least > 70) {
            throw new IllegalArgumentException("0 to 70 can be asked");
        }
        if (!it.part || it.cracked || it.laps > 0 || !isLoad(it.load)) {
            return NONE;
        }
        boolean hasTestPiece = (testedMelts[it.load] & 1 << it.melt) != 0;
        return hasTestPiece && it.leastHardness() >= least ? it.melt : NONE;
    }

    // ---- layers

    public int layer(int billet, int act)
            throws IndexOutOfBoundsException, IllegalArgumentException, IllegalStateException {
        Billet it = billetAt(billet);
        if (act < FOLD || act > CUT) {
            throw new IllegalArgumentException("an act is FOLD, TWIST or CUT");
        }
        if (it.core < WELDING_WARMTH) {
            throw new IllegalStateException("the core is below 900");
        }
        it.layers = Patterns.behind(it.layers, act);
        return it.layers;
    }

    public int fewest(int billet, int pattern)
            throws IndexOutOfBoundsException, IllegalArgumentException {
        Billet it = billetAt(billet);
        refuseNoPattern(pattern);
        patterns.exploreFrom(it.layers);
        return patterns.acts[pattern];
    }

    public int first(int billet, int pattern)
            throws IndexOutOfBoundsException, IllegalArgumentException {
        Billet it = billetAt(billet);
        refuseNoPattern(pattern);
        patterns.exploreFrom(it.layers);
        return patterns.openings[pattern];
    }

    // ---- plans

    public int job(int warmth) throws IllegalArgumentException, IllegalStateException {
        if (warmth < 200 || warmth > 1300) {
            throw new IllegalArgumentException("a job is of 200 to 1300");
        }
        if (plan.waiting >= MOST_JOBS) {
            throw new IllegalStateException("12 jobs wait");
        }
        plan.add(warmth);
        return plan.waiting;
    }

    public int planned(int place) throws IllegalArgumentException {
        if (place < 0) {
            throw new IllegalArgumentException("places are from 0");
        }
        return plan.warmthAt(place);
    }

    public int run() {
        return plan.carryOut();
    }

    // ---- what the calls share

    private Steel steelAt(int steel) {
        if (steel < 0 || steel >= STEELS) {
            throw new IndexOutOfBoundsException("no such steel");
        }
        return steels[steel];
    }

    private Billet billetAt(int billet) {
        if (billet < 0 || billet >= billets.size()) {
            throw new IndexOutOfBoundsException("no such billet");
        }
        return billets.get(billet);
    }

    private Die dieAt(int die) {
        if (die < 0 || die >= dies.size()) {
            throw new IndexOutOfBoundsException("no such die");
        }
        return dies.get(die);
    }

    private static void refuseNoSection(int section) {
        if (section < 0 || section >= SECTIONS) {
            throw new IndexOutOfBoundsException("no such section");
        }
    }

    private static void refuseMinutes(int minutes) {
        if (minutes < 1 || minutes > 200) {
            throw new IllegalArgumentException("minutes are 1 to 200");
        }
    }

    private static void refuseNoPattern(int pattern) {
        if (pattern < 0 || pattern >= PATTERNS) {
            throw new IllegalArgumentException("a pattern is 0 to 255");
        }
    }

    private static int neighbourOf(int section) {
        return section == SECTIONS - 1 ? section - 1 : section + 1;
    }

    private static boolean isMoreThanThrice(int one, int other) {
        return one > 3 * other;
    }

    private static boolean isInSet(int set, int member) {
        return (set >>> member & 1) != 0;
    }

    /** A billet has a load just as long as it was quenched since its latest heat. */
    private boolean isLoad(int load) {
        return load >= 0 && load < testedMelts.length;
    }

    private boolean canBeQuenched(int set) {
        for (int i = 0; i < billets.size(); i++) {
            Billet it = billets.get(i);
            if (isInSet(set, i) && (it.core < QUENCHING_WARMTH || it.cracked)) {
                return false;
            }
        }
        return true;
    }

    /** A steel, as it was told last. */
    private static final class Steel {
        int mostHeats = 3;
        int hard = 60;
        int drop = 4;
    }

    private static final class Die {
        static final int FULL_LIFE = 100;

        final int[] areas = new int[SECTIONS];
        int life = FULL_LIFE;

        Die() {
            Arrays.fill(areas, 10);
        }

        void wearBy(int much) {
            life = Math.max(0, life - much);
        }
    }

    private static final class Billet {
        private static final int MOST_GRAIN = 200;
        private static final int LEAST_GRAIN = 5;

        final int melt;
        final Steel steel;
        final int[] areas = new int[SECTIONS];
        final int firstVolume;
        int scale;
        int flash;
        int cutOff;
        int skin = ROOM_WARMTH;
        int core = ROOM_WARMTH;
        int heats;
        int grain = 50;
        int laps;
        boolean cracked;
        int layers = FIRST_PATTERN;
        int load = NONE;
        /** The hardness by the quench: a steel or an area that changes later leaves it alone. */
        final int[] quenched = new int[SECTIONS];
        /** The greatest warmth of the tempers since the quench. */
        int tempered = LEAST_TEMPER;
        /** Whether it is a part still, and was never a test piece. */
        boolean part = true;

        Billet(int melt, Steel steel, int area) {
            this.melt = melt;
            this.steel = steel;
            Arrays.fill(areas, area);
            firstVolume = area * SECTIONS;
        }

        int volume() {
            int sum = 0;
            for (int i = 0; i < SECTIONS; i++) {
                sum += areas[i];
            }
            return sum;
        }

        void standInFurnace(int furnace, int minutes) {
            heats++;
            // Without a load there is no hardness, and no temper that could count.
            load = NONE;
            for (int minute = 1; minute <= minutes; minute++) {
                skin += (furnace - skin) / 4;
                warmCore();
                if (minute % 5 == 0 && skin >= SCALING_WARMTH) {
                    loseScale();
                }
                if (minute % 10 == 0 && core >= WELDING_WARMTH) {
                    grain = Math.min(MOST_GRAIN, grain + 1);
                }
            }
        }

        /** One minute outside of the furnace. */
        void standOutside() {
            // The skin is never below the room's warmth, so that this division rounds down.
            skin -= (skin - ROOM_WARMTH) / 10;
            warmCore();
        }

        private void warmCore() {
            core += (skin - core) / 6;
        }

        private void loseScale() {
            for (int i = 0; i < SECTIONS; i++) {
                if (areas[i] > 1) {
                    areas[i]--;
                    scale++;
                }
            }
        }

        /** Moves area from a section to another one; answers how much, NONE if it cracks. */
        int strike(int from, int to, int force) {
            if (core < FORGING_WARMTH) {
                cracked = true;
                return NONE;
            }
            int moved = Math.min(force, areas[from] - 1);
            areas[from] -= moved;
            areas[to] += moved;
            if (isMoreThanThrice(areas[from], areas[to]) || isMoreThanThrice(areas[to], areas[from])) {
                laps++;
            }
            if (core >= WELDING_WARMTH) {
                grain = Math.max(LEAST_GRAIN, grain - force);
            }
            standOutside();
            return moved;
        }

        /** Answers how many sections have less than the die then, NONE if it cracks. */
        int squeezeInto(Die die, int energy) {
            if (core < FORGING_WARMTH) {
                cracked = true;
                return NONE;
            }
            flowInto(die, energy * core / 1000);
            die.wearBy(core < WELDING_WARMTH ? 3 : 1);
            standOutside();
            int lacking = countBelow(die);
            if (lacking == 0) {
                cutFlash(die);
            }
            return lacking;
        }

        private void flowInto(Die die, int most) {
            int left = most;
            for (int i = 0; i < SECTIONS; i++) {
                for (; left > 0 && areas[i] < die.areas[i]; left--) {
                    int from = nearestAbove(die, i);
                    if (from == NONE) {
                        return;
                    }
                    areas[from]--;
                    areas[i]++;
                }
            }
        }

        /** The nearest section that has more than the die, the lower one of two. */
        private int nearestAbove(Die die, int section) {
            for (int far = 1; far < SECTIONS; far++) {
                if (hasMoreAt(die, section - far)) {
                    return section - far;
                }
                if (hasMoreAt(die, section + far)) {
                    return section + far;
                }
            }
            return NONE;
        }

        private boolean hasMoreAt(Die die, int section) {
            return section >= 0 && section < SECTIONS && areas[section] > die.areas[section];
        }

        private int countBelow(Die die) {
            int count = 0;
            for (int i = 0; i < SECTIONS; i++) {
                if (areas[i] < die.areas[i]) {
                    count++;
                }
            }
            return count;
        }

        private void cutFlash(Die die) {
            for (int i = 0; i < SECTIONS; i++) {
                flash += areas[i] - die.areas[i];
                areas[i] = die.areas[i];
            }
        }

        /** Quenches it as one of a load. */
        void plunge(int load, boolean inWater) {
            for (int i = 0; i < SECTIONS; i++) {
                int number = Math.min(9, inWater ? areas[i] / 20 : areas[i] / 10);
                quenched[i] = Math.max(0, steel.hard - steel.drop * number);
            }
            if (inWater && isUneven()) {
                cracked = true;
            }
            skin = ROOM_WARMTH;
            core = ROOM_WARMTH;
            tempered = LEAST_TEMPER;
            this.load = load;
        }

        private boolean isUneven() {
            for (int i = 0; i < SECTIONS; i++) {
                int other = areas[neighbourOf(i)];
                if (isMoreThanThrice(areas[i], other) || isMoreThanThrice(other, areas[i])) {
                    return true;
                }
            }
            return false;
        }

        int hardnessAt(int section) {
            if (load == NONE) {
                return 0;
            }
            return Math.max(0, quenched[section] - (tempered - LEAST_TEMPER) / 20);
        }

        int leastHardness() {
            int least = hardnessAt(0);
            for (int i = 1; i < SECTIONS; i++) {
                least = Math.min(least, hardnessAt(i));
            }
            return least;
        }
    }

    /** The ways from pattern to pattern; its rows are made once, and each search fills them anew. */
    private static final class Patterns {
        /** For each pattern how few acts lead to it, NONE if none do. */
        final int[] acts = new int[PATTERNS];
        /** For each pattern the first of these acts, NONE without. */
        final int[] openings = new int[PATTERNS];
        private final int[] found = new int[PATTERNS];

        /**
         * Patterns are found in the order of their rows of acts, the shorter rows first and the
         * lower ones of as short ones first: so the row that finds a pattern first is its own.
         */
        void exploreFrom(int pattern) {
            Arrays.fill(acts, NONE);
            Arrays.fill(openings, NONE);
            int start = pattern & PATTERNS - 1;
            acts[start] = 0;
            found[0] = start;
            int count = 1;
            for (int i = 0; i < count && i < PATTERNS; i++) {
                int here = found[i];
                for (int act = FOLD; act <= CUT; act++) {
                    int next = behind(here, act);
                    if (acts[next] == NONE && count < PATTERNS) {
                        acts[next] = acts[here] + 1;
                        openings[next] = i == 0 ? act : openings[here];
                        found[count] = next;
                        count++;
                    }
                }
            }
        }

        /** The pattern behind an act; always one of 0 to 255. */
        static int behind(int pattern, int act) {
            if (act == FOLD) {
                return folded(pattern);
            }
            int places = act == TWIST ? 1 : 4;
            return (pattern << places | pattern >>> 8 - places) & PATTERNS - 1;
        }

        private static int folded(int pattern) {
            int result = 0;
            for (int i = 0; i < 4; i++) {
                int low = pattern >>> i & 1;
                int high = pattern >>> 7 - i & 1;
                result |= low << 2 * i | high << 2 * i + 1;
            }
            return result;
        }
    }

    /** The jobs that wait, and the furnace that does them. */
    private static final class Plan {
        /** The warmths of the jobs, rising. */
        private final int[] warmths = new int[MOST_JOBS];
        int waiting;
        private int furnace = 200;

        void add(int warmth) {
            if (waiting >= MOST_JOBS) {
                return;
            }
            int place = waiting;
            while (place > 0 && warmths[place - 1] > warmth) {
                warmths[place] = warmths[place - 1];
                place--;
            }
            warmths[place] = warmth;
            waiting++;
        }

        int warmthAt(int place) {
            if (place < 0 || place >= waiting) {
                return NONE;
            }
            return falls() ? warmths[waiting - 1 - place] : warmths[place];
        }

        /** Both ways go once from end to end: only the way to the first job differs. */
        private boolean falls() {
            return wayTo(warmths[waiting - 1]) < wayTo(warmths[0]);
        }

        private int wayTo(int warmth) {
            return Math.abs(warmth - furnace);
        }

        /** Does all jobs; answers all changes of the furnace together. */
        int carryOut() {
            if (waiting == 0) {
                return 0;
            }
            int start = warmthAt(0);
            int end = warmthAt(waiting - 1);
            int changes = wayTo(start) + Math.abs(end - start);
            furnace = end;
            waiting = 0;
            return changes;
        }
    }
}
