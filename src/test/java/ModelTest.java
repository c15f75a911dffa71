/** All promises: long runs of calls, each answer compared with the model's. */
public final class ModelTest {
    private static final int RUNS = 1500;
    private static final int CALLS = 512;

    private long seed;
    private final AnvilHouse x = new AnvilHouse();
    private final Model model = new Model();
    /** The call that is done, with its arguments. */
    private int call;
    private final int[] with = new int[4];
    private boolean wild;

    private ModelTest(long seed) {
        this.seed = seed;
    }

    public static void main(String[] args) {
        for (int run = 0; run < RUNS; run++) {
            new ModelTest(run * 7919L + 17).go(run);
        }
        Check.end();
    }

    private void go(int run) {
        for (int done = 0; done < CALLS; done++) {
            wild = below(12) == 0;
            call = done < 6 ? (done < 3 ? 1 : 2) : pick();
            arguments(done);
            long want = ofModel();
            long got = ofClass();
            Check.due("run " + run + ", call " + done + ": " + call + " of " + java.util.Arrays.toString(with),
                    want, got);
            if (want != got) {
                return;
            }
        }
    }

    private int below(int bound) {
        seed = seed * 6364136223846793005L + 1442695040888963407L;
        return (int) ((seed >>> 33) % bound);
    }

    private int between(int least, int most) {
        int edge = wild ? below(8) : 8;
        if (edge < 5) {
            return new int[] {least - 1, most + 1, Integer.MIN_VALUE, Integer.MAX_VALUE, -1}[edge];
        }
        return edge == 5 ? least : edge == 6 ? most : least + below(most - least + 1);
    }

    /** The calls that lead somewhere are picked more often. */
    private int pick() {
        int[] often = {0, 1, 2, 3, 3, 4, 5, 6, 6, 6, 6, 7, 8, 8, 8, 8, 9, 9, 10, 11, 11, 11, 11, 12, 13, 13,
            13, 13, 14, 14, 14, 14, 15, 15, 15, 16, 16, 17, 17, 18, 18, 18, 18, 19, 19, 20, 21, 22, 22, 23, 23,
            24, 25};
        int picked = often[below(often.length)];
        return picked == 25 && below(3) > 0 ? 22 : picked;
    }

    private void arguments(int done) {
        int billet = between(0, 5);
        int section = between(0, 7);
        switch (call) {
            case 0: set(between(0, 3), between(1, 9) | 4, between(20, 70), between(0, 9)); break;
            case 1: set(between(0, 3), 0, 0, 0); break;
            case 2: set(between(0, 2), between(2, 200), 0, 0); break;
            case 3: set(billet, between(0, 8), 0, 0); break;
            case 4: case 17: set(billet, section, 0, 0); break;
            case 6: set(billet, between(200, 1300) | below(2) * 1024, below(3) == 0 ? between(1, 200) : between(8, 40), 0); break;
            case 7: set(billet, below(4) == 0 ? between(1, 200) : between(1, 5), 0, 0); break;
            case 8: set(billet, section, between(0, 1), between(1, 20)); break;
            case 9: set(billet, section, below(3) == 0 ? between(1, 200) : between(1, 20), 0); break;
            case 11: set(between(0, 1), section, below(3) == 0 ? between(1, 400) : between(1, 40), 0); break;
            case 12: set(between(0, 3), 0, 0, 0); break;
            case 13: set(billet, between(0, 1), between(1, 50), 0); break;
            case 14: set(below(2) == 0 ? 1 << (billet & 31) : between(0, 63), between(0, 1), 0, 0); break;
            case 15: set(billet, between(100, 700), 0, 0); break;
            case 18: set(billet, between(0, 70) >> below(5), 0, 0); break;
            case 19: set(billet, between(0, 2), 0, 0); break;
            case 20: case 21: set(billet, between(0, 255), 0, 0); break;
            case 22: set(between(200, 1300), 0, 0, 0); break;
            case 23: set(between(0, 12), 0, 0, 0); break;
            default: set(billet, 0, 0, 0); break;
        }
    }

    private void set(int a, int b, int c, int d) {
        with[0] = a;
        with[1] = b;
        with[2] = c;
        with[3] = d;
    }

    private long ofModel() {
        int a = with[0], b = with[1], c = with[2], d = with[3];
        switch (call) {
            case 0: return model.steel(a, b, c, d);
            case 1: return model.melt(a);
            case 2: return model.billet(a, b);
            case 3: return model.billetIs(a, b);
            case 4: return model.area(a, b);
            case 5: return model.balances(a);
            case 6: return model.heat(a, b, c);
            case 7: return model.cool(a, b);
            case 8: return model.blow(a, b, c, d);
            case 9: return model.cut(a, b, c);
            case 10: return model.die();
            case 11: return model.shape(a, b, c);
            case 12: return model.sink(a);
            case 13: return model.press(a, b, c);
            case 14: return model.quench(a, b);
            case 15: return model.temper(a, b);
            case 16: return model.test(a);
            case 17: return model.hardness(a, b);
            case 18: return model.paper(a, b);
            case 19: return model.layer(a, b);
            case 20: return model.fewest(a, b);
            case 21: return model.first(a, b);
            case 22: return model.job(a);
            case 23: return model.planned(a);
            case 24: return model.balances(a);
            default: return model.run();
        }
    }

    private long ofClass() {
        try {
            return answer();
        } catch (RuntimeException e) {
            Class<?> kind = Check.isOwn(e) ? e.getClass() : null;
            return kind == IndexOutOfBoundsException.class ? Model.NO_SUCH
                    : kind == IllegalArgumentException.class ? Model.OUT_OF_RANGE
                    : kind == IllegalStateException.class ? Model.NOT_NOW : -999_999;
        }
    }

    private long answer() {
        int a = with[0], b = with[1], c = with[2], d = with[3];
        switch (call) {
            case 0: x.steel(a, b, c, d); return 0;
            case 1: return x.melt(a);
            case 2: return x.billet(a, b);
            case 3: return x.billetIs(a, b);
            case 4: return x.area(a, b);
            case 5: return x.balances(a) ? 1 : 0;
            case 6: return x.heat(a, b, c);
            case 7: return x.cool(a, b);
            case 8: return x.blow(a, b, c, d);
            case 9: return x.cut(a, b, c);
            case 10: return x.die();
            case 11: return x.shape(a, b, c);
            case 12: return x.sink(a);
            case 13: return x.press(a, b, c);
            case 14: return x.quench(a, b);
            case 15: return x.temper(a, b);
            case 16: return x.test(a);
            case 17: return x.hardness(a, b);
            case 18: return x.paper(a, b);
            case 19: return x.layer(a, b);
            case 20: return x.fewest(a, b);
            case 21: return x.first(a, b);
            case 22: return x.job(a);
            case 23: return x.planned(a);
            case 24: return x.balances(a) ? 1 : 0;
            default: return x.run();
        }
    }
}
