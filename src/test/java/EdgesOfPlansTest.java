/**
 * The edges that 'Papers, plans' names of plans, and the promises 24 to 26, a test for each
 * sentence, which stands above it.
 */
public final class EdgesOfPlansTest {
    private EdgesOfPlansTest() {
    }

    public static void main(String[] args) {
        warmths200To1300();
        atMostTwelveWait();
        twelveWaitAnew();
        howManyWaitThen();
        placeFromZero();
        noneIfNotSoManyWait();
        risingOrFalling();
        risingIfAsMuch();
        fallingIfLessByOne();
        oneJobAlone();
        jobsOfOneWarmth();
        outsideOfTheJobs();
        warmthOfNow200AtFirst();
        theLastOneThen();
        runOfNothing();
        Check.end();
    }

    /** A furnace that has this warmth by now. */
    private static AnvilHouse at(int warmth) {
        AnvilHouse x = new AnvilHouse();
        x.job(warmth);
        Check.due("from 200 to " + warmth, warmth - 200, x.run());
        return x;
    }

    private static void add(AnvilHouse x, int... warmths) {
        for (int i = 0; i < warmths.length; i++) {
            Check.due("how many wait", i + 1, x.job(warmths[i]));
        }
    }

    private static void plan(AnvilHouse x, int... warmths) {
        for (int place = 0; place < warmths.length; place++) {
            Check.due("planned(" + place + ")", warmths[place], x.planned(place));
        }
        Check.due("planned(" + warmths.length + ")", AnvilHouse.NONE, x.planned(warmths.length));
    }

    /** "Jobs of a furnace have warmths, 200 to 1300". */
    private static void warmths200To1300() {
        AnvilHouse x = new AnvilHouse();
        for (int warmth : new int[] {199, 1301, 0, -1, Integer.MIN_VALUE, Integer.MAX_VALUE}) {
            Check.outOfRange("a job of " + warmth, () -> x.job(warmth));
        }
        plan(x);
        add(x, 1300, 200);
        plan(x, 200, 1300);
    }

    /** "at most 12 wait"; "IllegalStateException if 12 wait". */
    private static void atMostTwelveWait() {
        AnvilHouse x = new AnvilHouse();
        add(x, 300, 300, 300, 300, 300, 300, 300, 300, 300, 300, 300);
        Check.due("the twelfth one", 12, x.job(250));
        Check.notNow("the 13th one", () -> x.job(200));
        Check.outOfRange("the 13th one of no warmth", () -> x.job(1301));
        plan(x, 250, 300, 300, 300, 300, 300, 300, 300, 300, 300, 300, 300);
    }

    /** To run the plan does all jobs: then twelve can wait again. */
    private static void twelveWaitAnew() {
        AnvilHouse x = new AnvilHouse();
        for (int round = 0; round < 3; round++) {
            add(x, 300, 310, 320, 330, 340, 350, 360, 370, 380, 390, 400, 410);
            Check.notNow("the 13th one", () -> x.job(300));
            Check.due("the run", round == 0 ? 210 : 110, x.run());
            plan(x);
        }
    }

    /** "Returns how many wait then.": not how many there ever were. */
    private static void howManyWaitThen() {
        AnvilHouse x = new AnvilHouse();
        add(x, 500, 500);
        x.run();
        add(x, 500);
    }

    /** "place: from 0"; "IllegalArgumentException if place is below 0". */
    private static void placeFromZero() {
        AnvilHouse x = new AnvilHouse();
        Check.outOfRange("planned(-1) of none", () -> x.planned(-1));
        add(x, 400, 300);
        Check.outOfRange("planned(-1)", () -> x.planned(-1));
        Check.outOfRange("planned(the least)", () -> x.planned(Integer.MIN_VALUE));
        Check.due("planned(0)", 300, x.planned(0));
    }

    /** "NONE if not so many wait." */
    private static void noneIfNotSoManyWait() {
        AnvilHouse x = new AnvilHouse();
        Check.due("planned(0) of none", AnvilHouse.NONE, x.planned(0));
        for (int many = 1; many <= 12; many++) {
            x.job(200 + many);
            Check.due("the last one", 200 + many, x.planned(many - 1));
            Check.due("behind it", AnvilHouse.NONE, x.planned(many));
        }
        Check.due("planned(the most)", AnvilHouse.NONE, x.planned(Integer.MAX_VALUE));
        x.run();
        Check.due("planned(0) behind a run", AnvilHouse.NONE, x.planned(0));
    }

    /** "by rising, or by falling warmths, whichever has the less of all changes": near the one or the other end. */
    private static void risingOrFalling() {
        AnvilHouse x = at(500);
        add(x, 700, 400, 600);
        plan(x, 400, 600, 700);
        Check.due("the run", 100 + 300, x.run());
        AnvilHouse y = at(500);
        add(y, 400, 530, 200);
        plan(y, 530, 400, 200);
        Check.due("the run", 30 + 330, y.run());
    }

    /** "by rising ones if both have as much". */
    private static void risingIfAsMuch() {
        for (int half : new int[] {1, 2, 100, 300}) {
            AnvilHouse x = at(500);
            add(x, 500 + half, 500 - half);
            plan(x, 500 - half, 500 + half);
            Check.due("the run", 3 * half, x.run());
        }
    }

    /** "whichever has the less of all changes": by 1 is enough, for both. */
    private static void fallingIfLessByOne() {
        AnvilHouse x = at(500);
        add(x, 400, 599);
        plan(x, 599, 400);
        Check.due("99 and 199", 298, x.run());
        AnvilHouse y = at(500);
        add(y, 600, 401);
        plan(y, 401, 600);
        Check.due("99 and 199", 298, y.run());
        AnvilHouse z = at(500);
        add(z, 499, 500);
        plan(z, 500, 499);
        Check.due("0 and 1", 1, z.run());
    }

    /** A plan of one job goes to it from either side. */
    private static void oneJobAlone() {
        for (int warmth : new int[] {200, 499, 500, 501, 1300}) {
            AnvilHouse x = at(500);
            add(x, warmth);
            plan(x, warmth);
            Check.due("the run", Math.abs(warmth - 500), x.run());
        }
    }

    /** Jobs of one warmth stand side by side, each at a place of its own. */
    private static void jobsOfOneWarmth() {
        AnvilHouse x = at(500);
        add(x, 500, 500, 500);
        plan(x, 500, 500, 500);
        Check.due("no change", 0, x.run());
        add(x, 700, 300, 700, 300);
        plan(x, 300, 300, 700, 700);
        Check.due("200 and 400", 600, x.run());
    }

    /** All jobs above the furnace are done by rising ones, all below it by falling ones. */
    private static void outsideOfTheJobs() {
        AnvilHouse x = at(500);
        add(x, 501, 1300);
        plan(x, 501, 1300);
        Check.due("the run", 800, x.run());
        add(x, 200, 1299);
        plan(x, 1299, 200);
        Check.due("the run", 1100, x.run());
        add(x, 1300, 200);
        plan(x, 200, 1300);
        Check.due("the run", 1100, x.run());
        add(x, 200, 1300);
        plan(x, 1300, 200);
        Check.due("the run", 1100, x.run());
    }

    /** "from its warmth of now, 200 at first". */
    private static void warmthOfNow200AtFirst() {
        AnvilHouse x = new AnvilHouse();
        add(x, 200);
        Check.due("from 200 to 200", 0, x.run());
        AnvilHouse y = new AnvilHouse();
        add(y, 201);
        Check.due("from 200 to 201", 1, y.run());
    }

    /** "the furnace has the warmth of the last one then": by rising ones the most, by falling ones the least. */
    private static void theLastOneThen() {
        AnvilHouse x = new AnvilHouse();
        add(x, 900, 300, 600);
        Check.due("to 900", 700, x.run());
        add(x, 900);
        Check.due("at 900", 0, x.run());
        add(x, 850, 400);
        Check.due("to 400", 500, x.run());
        add(x, 400);
        Check.due("at 400", 0, x.run());
    }

    /** A run of an empty plan changes nothing, and leaves the furnace as it is. */
    private static void runOfNothing() {
        AnvilHouse x = new AnvilHouse();
        Check.due("a first run of nothing", 0, x.run());
        add(x, 700);
        Check.due("from 200", 500, x.run());
        Check.due("a run of nothing", 0, x.run());
        add(x, 700);
        Check.due("at 700 still", 0, x.run());
    }
}
