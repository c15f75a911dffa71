/** Promises 24 to 26: job, planned, run. */
public final class PlansTest {
    private PlansTest() {
    }

    public static void main(String[] args) {
        nothingWaits();
        jobsAreSorted();
        fallingWhenLess();
        risingWhenAsMuch();
        furnaceOfNow();
        planOfNow();
        twelveWait();
        jobRefuses();
        plannedRefuses();
        heatIsAnotherFurnace();
        Check.end();
    }

    private static AnvilHouse waiting(int... warmths) {
        AnvilHouse x = new AnvilHouse();
        add(x, warmths);
        return x;
    }

    private static void add(AnvilHouse x, int... warmths) {
        for (int i = 0; i < warmths.length; i++) {
            Check.due("how many wait", i + 1, x.job(warmths[i]));
        }
    }

    private static void plan(AnvilHouse x, int... warmths) {
        for (int place = 0; place < warmths.length; place++) {
            Check.due("planned(" + place + ")", warmths[place], x.planned(place));
        }
        Check.due("planned behind the last one", -1, x.planned(warmths.length));
    }

    private static void nothingWaits() {
        AnvilHouse x = new AnvilHouse();
        plan(x);
        Check.due("run()", 0, x.run());
        x.job(300);
        Check.due("the furnace was at 200", 100, x.run());
        Check.due("run() again", 0, x.run());
        x.job(300);
        Check.due("a run of nothing leaves the furnace", 0, x.run());
    }

    private static void jobsAreSorted() {
        AnvilHouse x = waiting(700, 300, 1300, 300, 500, 200);
        plan(x, 200, 300, 300, 500, 700, 1300);
        Check.due("run()", 1100, x.run());
        plan(x);
    }

    /** From 1000 by 300 and 1200: 700 and 900 rising, 200 and 900 falling. */
    private static void fallingWhenLess() {
        AnvilHouse x = waiting(1000);
        x.run();
        add(x, 1200, 300, 900, 1200);
        plan(x, 1200, 1200, 900, 300);
        Check.due("run()", 1100, x.run());
        add(x, 300);
        Check.due("the furnace has the warmth of the last one", 0, x.run());
        add(x, 250, 200);
        plan(x, 250, 200);
        Check.due("both below the furnace", 100, x.run());
    }

    private static void risingWhenAsMuch() {
        AnvilHouse x = waiting(700);
        x.run();
        add(x, 900, 500, 600);
        plan(x, 500, 600, 900);
        Check.due("run()", 600, x.run());
        add(x, 950, 850);
        plan(x, 850, 950);
        Check.due("run()", 150, x.run());
        add(x, 950 - 99, 950 + 100);
        plan(x, 851, 1050);
        Check.due("99 down are less than 100 up", 99 + 199, x.run());
        add(x, 1050 - 100, 1050 + 99);
        plan(x, 1149, 950);
        Check.due("99 up are less than 100 down", 99 + 199, x.run());
    }

    private static void furnaceOfNow() {
        AnvilHouse x = waiting(1300);
        Check.due("from 200", 1100, x.run());
        add(x, 1300, 1300);
        plan(x, 1300, 1300);
        Check.due("from 1300", 0, x.run());
        AnvilHouse y = waiting(200);
        Check.due("another furnace", 0, y.run());
    }

    /** A job can turn the plan round. */
    private static void planOfNow() {
        AnvilHouse x = waiting(700);
        x.run();
        x.job(900);
        plan(x, 900);
        x.job(600);
        plan(x, 600, 900);
        x.job(200);
        plan(x, 900, 600, 200);
        x.job(1250);
        plan(x, 200, 600, 900, 1250);
        Check.due("run()", 500 + 1050, x.run());
    }

    private static void twelveWait() {
        AnvilHouse x = waiting(1300, 200, 1200, 300, 1100, 400, 1000, 500, 900, 600, 800, 700);
        Check.notNow("a 13th job", () -> x.job(700));
        Check.outOfRange("a 13th job of no warmth", () -> x.job(199));
        plan(x, 200, 300, 400, 500, 600, 700, 800, 900, 1000, 1100, 1200, 1300);
        Check.due("run()", 1100, x.run());
        add(x, 200);
    }

    private static void jobRefuses() {
        AnvilHouse x = waiting(400, 300);
        Check.unchanged(x, "job", () -> {
            Check.outOfRange("job(199)", () -> x.job(199));
            Check.outOfRange("job(1301)", () -> x.job(1301));
            Check.outOfRange("job(-1)", () -> x.job(-1));
            Check.outOfRange("job(the most)", () -> x.job(Integer.MAX_VALUE));
        });
        plan(x, 300, 400);
    }

    private static void plannedRefuses() {
        AnvilHouse x = waiting(300);
        Check.outOfRange("planned(-1)", () -> x.planned(-1));
        Check.outOfRange("planned(the least)", () -> x.planned(Integer.MIN_VALUE));
        Check.due("planned(12)", -1, x.planned(12));
        Check.due("planned(the most)", -1, x.planned(Integer.MAX_VALUE));
    }

    private static void heatIsAnotherFurnace() {
        AnvilHouse x = waiting(500);
        x.melt(0);
        x.billet(0, 30);
        x.heat(0, 1300, 60);
        Check.due("run()", 300, x.run());
    }
}
