import java.util.List;
import java.util.Set;
import java.util.function.Consumer;

/** A state in which calls are refused or not; what is a fact of one billet or die is one of all. */
final class Situation {
    /** What can make a call throw an IllegalStateException. */
    enum Fact {
        MELTS_20, BILLETS_12, HEATED_OUT, CRACK, DIES_4, NO_LIFE, BELOW_800, LOADS_20, NOT_QUENCHED, BELOW_900, JOBS_12
    }

    final String name;
    final int melts;
    final int billets;
    final int dies;
    final Set<Fact> facts;
    private final Consumer<AnvilHouse> rest;

    private Situation(String name, int melts, int billets, int dies, Consumer<AnvilHouse> rest, Fact... facts) {
        this.name = name;
        this.melts = melts;
        this.billets = billets;
        this.dies = dies;
        this.rest = rest;
        this.facts = Set.of(facts);
    }

    /** A new object that is in this state. */
    AnvilHouse made() {
        AnvilHouse x = new AnvilHouse();
        for (int steel = 0; steel < 4; steel++) {
            x.steel(steel, 9, 60 + steel, 4);
        }
        for (int melt = 0; melt < melts; melt++) {
            x.melt(melt % 4);
        }
        for (int billet = 0; billet < billets; billet++) {
            x.billet(0, 200 - billet);
        }
        for (int die = 0; die < dies; die++) {
            x.die();
        }
        rest.accept(x);
        return x;
    }

    static List<Situation> all() {
        return List.of(
                new Situation("a new object", 0, 0, 0, x -> { }),
                new Situation("two melts", 2, 0, 0, x -> { }),
                cold("new billets", x -> { }),
                cold("at 699", x -> warm(x, 699)),
                cold("at 700", x -> warm(x, 700)),
                cold("at 799", x -> warm(x, 799)),
                warm("at 800", x -> warm(x, 800)),
                warm("at 899", x -> warm(x, 899)),
                hot("at 900", x -> warm(x, 900)),
                hot("much was done", Situation::doMuch),
                new Situation("cracked", 2, 2, 2, Situation::crack, Fact.CRACK, Fact.BELOW_800, Fact.BELOW_900,
                        Fact.NOT_QUENCHED),
                new Situation("cracked and hot", 2, 2, 2, x -> {
                    crack(x);
                    warm(x, 1292);
                }, Fact.CRACK, Fact.NOT_QUENCHED),
                quenched("quenched", Situation::quench),
                quenched("quenched, tempered and tested", x -> {
                    quench(x);
                    x.temper(0, 299);
                    x.temper(1, 219);
                    x.test(1);
                }),
                new Situation("quenched and heated out", 2, 2, 2, x -> {
                    quench(x);
                    x.temper(0, 299);
                    x.steel(0, 1, 60, 4);
                }, Fact.HEATED_OUT, Fact.BELOW_800, Fact.BELOW_900),
                hot("heated since the quench", x -> {
                    quench(x);
                    x.temper(0, 300);
                    x.test(1);
                    warm(x, 1292);
                }),
                new Situation("heated out", 2, 2, 2, x -> {
                    warm(x, 1292);
                    x.steel(0, 1, 60, 4);
                }, Fact.HEATED_OUT, Fact.NOT_QUENCHED),
                new Situation("no life", 2, 2, 1, x -> {
                    wearOut(x);
                    warm(x, 1292);
                }, Fact.NO_LIFE, Fact.NOT_QUENCHED),
                new Situation("no life, cold", 2, 2, 1, Situation::wearOut, Fact.NO_LIFE, Fact.BELOW_800,
                        Fact.BELOW_900, Fact.NOT_QUENCHED),
                new Situation("no life, cracked, cold and heated out", 2, 2, 1, x -> {
                    wearOut(x);
                    crack(x);
                    x.heat(1, 200, 1);
                    x.steel(0, 1, 60, 4);
                }, Fact.NO_LIFE, Fact.CRACK, Fact.BELOW_800, Fact.BELOW_900, Fact.HEATED_OUT, Fact.NOT_QUENCHED),
                new Situation("20 loads", 2, 3, 1, Situation::quenchOften, Fact.LOADS_20, Fact.NOT_QUENCHED),
                new Situation("all places taken", 20, 12, 4, Situation::twelveJobs, Fact.MELTS_20, Fact.BILLETS_12,
                        Fact.DIES_4, Fact.JOBS_12, Fact.BELOW_800, Fact.BELOW_900, Fact.NOT_QUENCHED));
    }

    private static Situation cold(String name, Consumer<AnvilHouse> rest) {
        return new Situation(name, 2, 2, 2, rest, Fact.BELOW_800, Fact.BELOW_900, Fact.NOT_QUENCHED);
    }

    private static Situation warm(String name, Consumer<AnvilHouse> rest) {
        return new Situation(name, 2, 2, 2, rest, Fact.BELOW_900, Fact.NOT_QUENCHED);
    }

    private static Situation hot(String name, Consumer<AnvilHouse> rest) {
        return new Situation(name, 2, 2, 2, rest, Fact.NOT_QUENCHED);
    }

    private static Situation quenched(String name, Consumer<AnvilHouse> rest) {
        return new Situation(name, 2, 2, 2, rest, Fact.BELOW_800, Fact.BELOW_900);
    }

    private static void warm(AnvilHouse x, int core) {
        for (int billet = 0; Look.isThere(x, billet); billet++) {
            Forge.warm(x, billet, core);
        }
    }

    private static void crack(AnvilHouse x) {
        for (int billet = 0; billet < 2; billet++) {
            Check.due("a cold blow", AnvilHouse.NONE, x.blow(billet, 0, AnvilHouse.DRAW, 1));
        }
    }

    private static void quench(AnvilHouse x) {
        warm(x, 800);
        x.quench(3, AnvilHouse.OIL);
    }

    /** Something of all that leaves the billets hot: there is much that could be changed. */
    private static void doMuch(AnvilHouse x) {
        warm(x, 1292);
        x.layer(0, AnvilHouse.FOLD);
        x.layer(1, AnvilHouse.TWIST);
        x.cut(0, 3, 40);
        x.blow(0, 3, AnvilHouse.DRAW, 5);
        x.cut(1, 0, 180);
        x.blow(1, 0, AnvilHouse.UPSET, 1);
        x.shape(0, 2, 300);
        x.shape(1, 7, 400);
        x.press(1, 0, 9);
        x.job(400);
        x.run();
        x.job(500);
        x.job(350);
    }

    /** The die 0 has no life then, and the billet 0 a core of 656. */
    private static void wearOut(AnvilHouse x) {
        for (int heat = 0; heat < 5; heat++) {
            x.heat(0, 1300, 60);
            for (int press = 0; press < 12; press++) {
                x.press(0, 0, 1);
            }
        }
        Check.due("the core", 656, x.billetIs(0, 1));
    }

    private static void quenchOften(AnvilHouse x) {
        for (int load = 0; load < 20; load++) {
            Forge.warm(x, load % 3, 800);
            Check.due("a load", load, x.quench(1 << load % 3, AnvilHouse.WATER));
        }
        warm(x, 1292);
    }

    private static void twelveJobs(AnvilHouse x) {
        for (int job = 0; job < 12; job++) {
            x.job(300 + 50 * (job % 5));
        }
    }
}
