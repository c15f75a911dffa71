/** What the tests of the edges start from. */
final class Forge {
    private Forge() {
    }

    /** A melt of the steel 0, which may be heated nine times, and billets of it. */
    static AnvilHouse of(int... areas) {
        AnvilHouse x = new AnvilHouse();
        x.steel(0, 9, 60, 4);
        x.melt(0);
        for (int area : areas) {
            x.billet(0, area);
        }
        return x;
    }

    /** Heats a colder billet to just this core; its skin is 5 more then. */
    static void warm(AnvilHouse x, int billet, int core) {
        Check.due("the core of billet " + billet, core, x.heat(billet, core + 8, 60));
    }

    static void cutTo(AnvilHouse x, int billet, int... areas) {
        for (int section = 0; section < areas.length; section++) {
            int more = x.area(billet, section) - areas[section];
            if (more > 0) {
                Check.due("what is cut", more, x.cut(billet, section, more));
            }
            Check.due("the area as wanted", areas[section], x.area(billet, section));
        }
    }

    /** All sections of a billet have the one area, and the one section has another. */
    static void cutTo(AnvilHouse x, int billet, int all, int section, int other) {
        int[] areas = {all, all, all, all, all, all, all, all};
        areas[section] = other;
        cutTo(x, billet, areas);
    }

    static void shapeTo(AnvilHouse x, int die, int... areas) {
        for (int section = 0; section < areas.length; section++) {
            x.shape(die, section, areas[section]);
        }
    }

    static void areas(String when, AnvilHouse x, int billet, int... due) {
        StringBuilder all = new StringBuilder();
        for (int area : due) {
            all.append(' ').append(area);
        }
        Check.same("areas " + when, all.toString(), Look.areas(x, billet));
    }

    static void hardness(String when, AnvilHouse x, int billet, int... due) {
        StringBuilder all = new StringBuilder();
        for (int hardness : due) {
            all.append(' ').append(hardness);
        }
        Check.same("hardness " + when, all.toString(), Look.hardness(x, billet));
    }
}
