/** All that can be seen of an object by calls that change nothing (but dies, which are put back). */
final class Look {
    private Look() {
    }

    static String at(AnvilHouse x) {
        StringBuilder all = new StringBuilder();
        for (int billet = 0; isThere(x, billet); billet++) {
            all.append(billet(x, billet)).append('\n');
        }
        for (int die = 0; isDie(x, die); die++) {
            all.append(die(x, die)).append('\n');
        }
        all.append("plan");
        for (int place = 0; x.planned(place) != AnvilHouse.NONE; place++) {
            all.append(' ').append(x.planned(place));
        }
        return all.toString();
    }

    static String billet(AnvilHouse x, int billet) {
        StringBuilder all = new StringBuilder("billet " + billet + ":");
        for (int what = 0; what <= 8; what++) {
            all.append(' ').append(x.billetIs(billet, what));
        }
        all.append(" areas").append(areas(x, billet)).append(" hardness").append(hardness(x, billet));
        return all.append(x.balances(billet) ? " balances" : " does not balance")
                .append(" paper ").append(x.paper(billet, 0)).toString();
    }

    static String areas(AnvilHouse x, int billet) {
        StringBuilder all = new StringBuilder();
        for (int section = 0; section < 8; section++) {
            all.append(' ').append(x.area(billet, section));
        }
        return all.toString();
    }

    static String hardness(AnvilHouse x, int billet) {
        StringBuilder all = new StringBuilder();
        for (int section = 0; section < 8; section++) {
            all.append(' ').append(x.hardness(billet, section));
        }
        return all.toString();
    }

    static String die(AnvilHouse x, int die) {
        StringBuilder all = new StringBuilder("die " + die + ":");
        for (int section = 0; section < 8; section++) {
            int area = x.shape(die, section, 1);
            x.shape(die, section, area);
            all.append(' ').append(area);
        }
        return all.toString();
    }

    static boolean isThere(AnvilHouse x, int billet) {
        try {
            x.billetIs(billet, 0);
            return true;
        } catch (IndexOutOfBoundsException e) {
            return false;
        }
    }

    private static boolean isDie(AnvilHouse x, int die) {
        try {
            x.shape(die, 0, x.shape(die, 0, 1));
            return true;
        } catch (IndexOutOfBoundsException e) {
            return false;
        }
    }
}
