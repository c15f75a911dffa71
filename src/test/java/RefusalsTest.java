import java.util.ArrayList;
import java.util.Arrays;
import java.util.List;

/**
 * "When a call throws, nothing has changed; of several exceptions it is the first one of the
 * throws clause." Each call is done in each situation with all sets of arguments of the last
 * value that is allowed and the first one that is not, at both ends of each range.
 */
public final class RefusalsTest {
    private static final int STEEL = 0, MELT = 1, BILLET = 2, DIE = 3, SECTION = 4, RANGE = 5, SET = 6;

    /** What an argument is, and if it is of a range, its ends. */
    private record Argument(int kind, int least, int most) {
        int first(Situation in) {
            return kind == SET ? 1 : kind == RANGE ? least : 0;
        }

        int last(Situation in) {
            switch (kind) {
                case STEEL: return 3;
                case MELT: return in.melts - 1;
                case BILLET: return in.billets - 1;
                case DIE: return in.dies - 1;
                case SECTION: return 7;
                case SET: return (1 << in.billets) - 1;
                default: return most;
            }
        }

        boolean isGood(Situation in, int value) {
            return value >= first(in) && value <= last(in);
        }

        boolean isIndex() {
            return kind < RANGE;
        }

        List<Integer> edges(Situation in) {
            List<Integer> edges = new ArrayList<>(List.of(first(in), last(in), first(in) - 1));
            if (last(in) < Integer.MAX_VALUE) {
                edges.add(last(in) + 1);
            }
            return new ArrayList<>(new java.util.LinkedHashSet<>(edges));
        }
    }

    private interface Done {
        void go(AnvilHouse x, int[] with);
    }

    private static final class Call {
        final String name;
        final boolean asksAlone;
        final List<Situation.Fact> faults;
        final Argument[] arguments;
        final Done done;

        Call(String name, boolean asksAlone, List<Situation.Fact> faults, Done done, Argument... arguments) {
            this.name = name;
            this.asksAlone = asksAlone;
            this.faults = faults;
            this.done = done;
            this.arguments = arguments;
        }

        /** The first one of the throws clause, null without. */
        Class<?> due(Situation in, int[] with) {
            boolean outOfRange = false;
            for (int i = 0; i < with.length; i++) {
                if (!arguments[i].isGood(in, with[i])) {
                    if (arguments[i].isIndex()) {
                        return IndexOutOfBoundsException.class;
                    }
                    outOfRange = true;
                }
            }
            if (outOfRange) {
                return IllegalArgumentException.class;
            }
            boolean notNow = faults.stream().anyMatch(in.facts::contains);
            return notNow ? IllegalStateException.class : null;
        }
    }

    private static final Argument STEELS = new Argument(STEEL, 0, 0);
    private static final Argument MELTS = new Argument(MELT, 0, 0);
    private static final Argument BILLETS = new Argument(BILLET, 0, 0);
    private static final Argument DIES = new Argument(DIE, 0, 0);
    private static final Argument SECTIONS = new Argument(SECTION, 0, 0);

    private static Argument range(int least, int most) {
        return new Argument(RANGE, least, most);
    }

    private static Call asks(String name, Done done, Argument... arguments) {
        return new Call(name, true, List.of(), done, arguments);
    }

    private static Call does(String name, List<Situation.Fact> faults, Done done, Argument... arguments) {
        return new Call(name, false, faults, done, arguments);
    }

    private static final List<Call> CALLS = List.of(
            does("steel", List.of(), (x, a) -> x.steel(a[0], a[1], a[2], a[3]),
                    STEELS, range(1, 9), range(20, 70), range(0, 9)),
            does("melt", List.of(Situation.Fact.MELTS_20), (x, a) -> x.melt(a[0]), STEELS),
            does("billet", List.of(Situation.Fact.BILLETS_12), (x, a) -> x.billet(a[0], a[1]), MELTS, range(2, 200)),
            asks("billetIs", (x, a) -> x.billetIs(a[0], a[1]), BILLETS, range(0, 8)),
            asks("area", (x, a) -> x.area(a[0], a[1]), BILLETS, SECTIONS),
            asks("balances", (x, a) -> x.balances(a[0]), BILLETS),
            does("heat", List.of(Situation.Fact.HEATED_OUT), (x, a) -> x.heat(a[0], a[1], a[2]),
                    BILLETS, range(200, 1300), range(1, 200)),
            does("cool", List.of(), (x, a) -> x.cool(a[0], a[1]), BILLETS, range(1, 200)),
            does("blow", List.of(Situation.Fact.CRACK), (x, a) -> x.blow(a[0], a[1], a[2], a[3]),
                    BILLETS, SECTIONS, range(0, 1), range(1, 20)),
            does("cut", List.of(), (x, a) -> x.cut(a[0], a[1], a[2]), BILLETS, SECTIONS, range(1, 200)),
            does("die", List.of(Situation.Fact.DIES_4), (x, a) -> x.die()),
            does("shape", List.of(), (x, a) -> x.shape(a[0], a[1], a[2]), DIES, SECTIONS, range(1, 400)),
            does("sink", List.of(), (x, a) -> x.sink(a[0]), DIES),
            does("press", List.of(Situation.Fact.CRACK, Situation.Fact.NO_LIFE), (x, a) -> x.press(a[0], a[1], a[2]),
                    BILLETS, DIES, range(1, 50)),
            does("quench", List.of(Situation.Fact.BELOW_800, Situation.Fact.CRACK, Situation.Fact.LOADS_20),
                    (x, a) -> x.quench(a[0], a[1]), new Argument(SET, 0, 0), range(0, 1)),
            does("temper", List.of(Situation.Fact.NOT_QUENCHED), (x, a) -> x.temper(a[0], a[1]),
                    BILLETS, range(100, 700)),
            asks("hardness", (x, a) -> x.hardness(a[0], a[1]), BILLETS, SECTIONS),
            does("test", List.of(Situation.Fact.NOT_QUENCHED), (x, a) -> x.test(a[0]), BILLETS),
            asks("paper", (x, a) -> x.paper(a[0], a[1]), BILLETS, range(0, 70)),
            does("layer", List.of(Situation.Fact.BELOW_900), (x, a) -> x.layer(a[0], a[1]), BILLETS, range(0, 2)),
            asks("fewest", (x, a) -> x.fewest(a[0], a[1]), BILLETS, range(0, 255)),
            asks("first", (x, a) -> x.first(a[0], a[1]), BILLETS, range(0, 255)),
            does("job", List.of(Situation.Fact.JOBS_12), (x, a) -> x.job(a[0]), range(200, 1300)),
            asks("planned", (x, a) -> x.planned(a[0]), range(0, Integer.MAX_VALUE)),
            does("run", List.of(), (x, a) -> x.run()));

    private RefusalsTest() {
    }

    public static void main(String[] args) {
        for (Situation in : Situation.all()) {
            List<String> before = Hidden.VIEWS.stream().map(view -> view.apply(in.made())).toList();
            for (Call call : CALLS) {
                inSituation(in, call, before);
            }
        }
        Check.end();
    }

    private static void inSituation(Situation in, Call call, List<String> before) {
        for (int[] with : allArguments(in, call)) {
            if (call.due(in, with) != null || call.asksAlone) {
                nothingChanges(in, call, with, before);
            } else {
                go(in, call, with, in.made());
            }
        }
    }

    private static void nothingChanges(Situation in, Call call, int[] with, List<String> before) {
        for (int view = 0; view < Hidden.VIEWS.size(); view++) {
            AnvilHouse x = in.made();
            go(in, call, with, x);
            Check.same(in.name + ": " + call.name + Arrays.toString(with) + " changed something",
                    before.get(view), Hidden.VIEWS.get(view).apply(x));
        }
    }

    private static void go(Situation in, Call call, int[] with, AnvilHouse x) {
        Class<?> due = call.due(in, with);
        Class<?> got = null;
        try {
            call.done.go(x, with);
        } catch (RuntimeException e) {
            got = Check.isOwn(e) ? e.getClass() : Error.class;
        }
        Check.holds(in.name + ": " + call.name + Arrays.toString(with) + " threw " + got + ", due is " + due,
                got == due);
    }

    /** All sets of edges; and with the other arguments as good as can be, the far ends of the numbers. */
    private static List<int[]> allArguments(Situation in, Call call) {
        List<int[]> all = new ArrayList<>();
        int[] first = new int[call.arguments.length];
        product(in, call, 0, first, all);
        for (int i = 0; i < first.length; i++) {
            for (int far : new int[] {Integer.MIN_VALUE, Integer.MAX_VALUE}) {
                int[] with = new int[first.length];
                for (int k = 0; k < with.length; k++) {
                    with[k] = k == i ? far : call.arguments[k].first(in);
                }
                all.add(with);
            }
        }
        return all;
    }

    private static void product(Situation in, Call call, int place, int[] with, List<int[]> all) {
        if (place == with.length) {
            all.add(with.clone());
            return;
        }
        for (int edge : call.arguments[place].edges(in)) {
            with[place] = edge;
            product(in, call, place + 1, with, all);
        }
    }
}
