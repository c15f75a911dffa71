import java.util.List;
import java.util.function.Function;

/**
 * All that an object answers, seen and unseen. Each view spoils the object, and takes few enough
 * calls for one object, so each one needs an object of its own.
 */
final class Hidden {
    static final List<Function<AnvilHouse, String>> VIEWS =
            List.of(Look::at, Hidden::counts, Hidden::heatsAndSteels, Hidden::partsAndPieces, Hidden::partsOfANewLoad);

    private Hidden() {
    }

    /** How many melts, billets and dies there are, the lives of the dies, the furnace of the plan, the loads. */
    private static String counts(AnvilHouse x) {
        StringBuilder all = new StringBuilder("lives");
        for (int die = 0; die < 4; die++) {
            int of = die;
            all.append(' ').append(answer(() -> x.sink(of)));
        }
        all.append(" die ").append(answer(x::die));
        all.append(" run ").append(answer(x::run)).append(" job ").append(answer(() -> x.job(700)));
        all.append(" run ").append(answer(x::run));
        int billet = 0;
        while (Look.isThere(x, billet)) {
            int of = billet++;
            answer(() -> x.heat(of, 1300, 60));
            all.append(" load ").append(answer(() -> x.quench(1 << of, AnvilHouse.OIL)));
        }
        all.append(" melt ").append(answer(() -> x.melt(0)));
        return all.append(" billet ").append(answer(() -> x.billet(0, 20))).toString();
    }

    /** How often each billet may be heated, what the quench makes of it, and what each steel is. */
    private static String heatsAndSteels(AnvilHouse x) {
        StringBuilder all = new StringBuilder("heats");
        int billet = 0;
        while (Look.isThere(x, billet)) {
            heats(x, billet++, all);
        }
        for (int steel = 0; steel < 4; steel++) {
            int of = steel;
            String melt = answer(() -> x.melt(of));
            String made = answer(() -> x.billet(Integer.parseInt(melt), 200));
            all.append(" steel ").append(melt).append(' ').append(made);
            if (Look.isThere(x, billet)) {
                heats(x, billet++, all);
            }
        }
        return all.toString();
    }

    private static void heats(AnvilHouse x, int billet, StringBuilder all) {
        int heats = 0;
        while (heats < 10 && answer(() -> x.heat(billet, 1300, 35)).length() < 5) {
            heats++;
        }
        all.append(' ').append(heats).append(answer(() -> x.quench(1 << billet, AnvilHouse.OIL)));
        all.append(' ').append(answer(() -> x.hardness(billet, 0)));
        all.append(' ').append(answer(() -> x.temper(billet, 100)));
    }

    /** Which billets are parts, and of what there are test pieces. */
    private static String partsAndPieces(AnvilHouse x) {
        StringBuilder all = new StringBuilder("papers");
        for (int tested = -1; tested == -1 || Look.isThere(x, tested); tested++) {
            int of = tested;
            all.append(" test ").append(answer(() -> x.test(of)));
            for (int billet = 0; Look.isThere(x, billet); billet++) {
                all.append(' ').append(x.paper(billet, 0));
            }
        }
        return all.toString();
    }

    /** Which billets are parts, when all that can be quenched are quenched together. */
    private static String partsOfANewLoad(AnvilHouse x) {
        int set = 0;
        for (int billet = 0; Look.isThere(x, billet); billet++) {
            int of = billet;
            answer(() -> x.heat(of, 1300, 60));
            boolean canBeQuenched = x.billetIs(billet, 1) >= 800 && x.billetIs(billet, 6) == 0;
            set |= canBeQuenched ? 1 << billet : 0;
        }
        int all = set;
        return "load " + answer(() -> x.quench(all, AnvilHouse.OIL)) + ' ' + partsAndPieces(x);
    }

    private static String answer(Check.Asked asked) {
        try {
            return "" + asked.answer();
        } catch (NumberFormatException e) {
            return "not asked";
        } catch (RuntimeException e) {
            return e.getClass().getSimpleName();
        }
    }
}
