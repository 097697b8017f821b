/** Objects that several tests begin with, and what can be asked of an object, as texts. */
final class Scenes {
    private Scenes() {
    }

    /** A new pin of the net, at one access place. */
    static void pinAt(TrackRoutes r, int net, int layer, int x, int y) {
        r.access(r.pin(net), layer, x, y);
    }

    /** A new net with pins at places of layer 0: x, y, x, y, .. */
    static int netAt(TrackRoutes r, int... xy) {
        int net = r.net();
        for (int k = 0; k + 1 < xy.length; k += 2) {
            pinAt(r, net, 0, xy[k], xy[k + 1]);
        }
        return net;
    }

    /** An object of one layer on which a step costs 1, along and across. */
    static TrackRoutes even(int width, int height) {
        TrackRoutes r = new TrackRoutes(1, width, height);
        r.rule(1, 0, 0);
        return r;
    }

    /** A net with pins at layer, x, y, layer, x, y, .. */
    static int netOn(TrackRoutes r, int... places) {
        int net = r.net();
        for (int k = 0; k + 2 < places.length; k += 3) {
            pinAt(r, net, places[k], places[k + 1], places[k + 2]);
        }
        return net;
    }

    /** Places to be barred: layer, x, y, layer, x, y, .. */
    static void barAll(TrackRoutes r, int... places) {
        for (int k = 0; k + 2 < places.length; k += 3) {
            r.bar(places[k], places[k + 1], places[k + 2], places[k + 1], places[k + 2]);
        }
    }

    /** A row and a column of one layer that must cross: each tears up the other one. */
    static TrackRoutes cross() {
        TrackRoutes r = new TrackRoutes(1, 5, 3);
        netAt(r, 0, 1, 4, 1);
        netAt(r, 2, 0, 2, 2);
        return r;
    }

    /** The same where they can cross at (2, 1) alone. */
    static TrackRoutes plus() {
        TrackRoutes r = cross();
        r.bar(0, 0, 0, 1, 0);
        r.bar(0, 3, 0, 4, 0);
        r.bar(0, 0, 2, 1, 2);
        r.bar(0, 3, 2, 4, 2);
        return r;
    }

    /**
     * As many nets and pins as there can be, pin 39 with as many access places, on a cross with a barred layer above
     * it; each rule of layer 1 is another one than at first, net 7 is shielded.
     */
    static TrackRoutes full() {
        TrackRoutes r = new TrackRoutes(2, 5, 3);
        r.bar(1, 0, 0, 4, 2);
        netAt(r, 0, 1, 4, 1);
        netAt(r, 2, 0, 2, 2);
        for (int net = 2; net < 16; net++) {
            r.net();
        }
        for (int pin = 4; pin < 40; pin++) {
            r.pin(15);
        }
        for (int x = 0; x < 4; x++) {
            r.access(39, 0, x, 0);
        }
        r.access(38, 0, 4, 2);
        r.rule(0, 1, 1);
        r.rule(1, 1, 7);
        r.rule(2, 1, 9);
        r.shield(7);
        return r;
    }

    /** What full() holds and no run tells, as answers of calls that change it. */
    static String hidden(TrackRoutes r) {
        StringBuilder text = new StringBuilder("rules as before:");
        int[][] rules = {{0, 0, 0}, {1, 0, 3}, {2, 0, 5}, {0, 1, 1}, {1, 1, 7}, {2, 1, 9}};
        for (int[] rule : rules) {
            text.append(' ').append(!r.rule(rule[0], rule[1], rule[2]));
        }
        text.append(" shields:");
        for (int net = 0; net < 16; net++) {
            text.append(' ').append(!r.shield(net));
        }
        text.append(" access:");
        for (int x = 0; x < 4; x++) {
            int column = x;
            text.append(' ').append(Checks.answer(() -> r.access(38, 0, column, 2)));
        }
        text.append(" bars: ").append(r.bar(1, 0, 0, 4, 2));
        return text.append(' ').append(r.bar(0, 0, 0, 0, 0)).append(' ').append(r.count(2)).toString();
    }

    /** All places of a net: layer, x, y of each, with ^ for a via to the layer above. */
    static String pieces(TrackRoutes r, int net) {
        StringBuilder text = new StringBuilder();
        for (int k = 0; k < 3 * 24 * 24; k++) {
            int which = k;
            if (!(Checks.answer(() -> r.piece(net, which, 0)) instanceof Integer)) {
                break;
            }
            text.append(k == 0 ? "" : " ").append(r.piece(net, k, 0)).append(',').append(r.piece(net, k, 1))
                .append(',').append(r.piece(net, k, 2)).append(r.piece(net, k, 3) == 1 ? "^" : "");
        }
        return text.toString();
    }

    /** One round, and then the net is joined and stands at these places. */
    static void dueRoute(Checks checks, String what, TrackRoutes r, int net, String due) {
        r.run(1);
        checks.due(what, pieces(r, net), due);
        checks.due(what + ": joined", r.joined(net), true);
    }

    /** What is counted: nets, pins, barred, rounds, ways without and with tearing up. */
    static String counts(TrackRoutes r) {
        StringBuilder text = new StringBuilder();
        for (int what = 0; what < 6; what++) {
            text.append(what == 0 ? "" : " ").append(r.count(what));
        }
        return text.toString();
    }

    /** All open nets, each with why: 0:3 1:2. */
    static String opens(TrackRoutes r) {
        StringBuilder text = new StringBuilder();
        for (int k = 0; k < 16 && r.open(k, 0) != TrackRoutes.NONE; k++) {
            text.append(k == 0 ? "" : " ").append(r.open(k, 0)).append(':').append(r.open(k, 1));
        }
        return text.toString();
    }

    /** All that a run tells of an object with 15 places on layer 0. */
    static String told(TrackRoutes r) {
        StringBuilder text = new StringBuilder(counts(r)).append(" open ").append(opens(r));
        for (int net = 0; net < r.count(0); net++) {
            text.append(" | ").append(pieces(r, net)).append(' ').append(r.joined(net));
        }
        text.append(" chosen");
        for (int pin = 0; pin < r.count(1); pin++) {
            text.append(' ').append(r.chosen(pin));
        }
        text.append(" broken ").append(r.broken(0)).append(" history");
        for (int place = 0; place < 15; place++) {
            text.append(' ').append(r.history(0, place % 5, place / 5));
        }
        return text.toString();
    }
}
