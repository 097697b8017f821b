/** Promises 9 to 15 at their boundaries: each case that a sentence of the document names, by itself. */
public final class BoundaryAnswersTest {
    private static final Checks CHECKS = new Checks();

    public static void main(String[] args) {
        CHECKS.test("9 no run", BoundaryAnswersTest::promise9NoRun);
        CHECKS.test("9 net and what", BoundaryAnswersTest::promise9NetAndWhat);
        CHECKS.test("9 which place", BoundaryAnswersTest::promise9WhichPlace);
        CHECKS.test("9 nowhere", BoundaryAnswersTest::promise9Nowhere);
        CHECKS.test("9 a long route", BoundaryAnswersTest::promise9LongRoute);
        CHECKS.test("9 order", BoundaryAnswersTest::promise9Order);
        CHECKS.test("9 vias", BoundaryAnswersTest::promise9Vias);
        CHECKS.test("10 no pin, no run", BoundaryAnswersTest::promise10NoPinNoRun);
        CHECKS.test("10 first to last", BoundaryAnswersTest::promise10FirstToLast);
        CHECKS.test("10 closed", BoundaryAnswersTest::promise10Closed);
        CHECKS.test("10 last pin", BoundaryAnswersTest::promise10LastPin);
        CHECKS.test("11 no run", BoundaryAnswersTest::promise11NoRun);
        CHECKS.test("11 no such", BoundaryAnswersTest::promise11NoSuch);
        CHECKS.test("11 all open", BoundaryAnswersTest::promise11AllOpen);
        CHECKS.test("11 none open", BoundaryAnswersTest::promise11NoneOpen);
        CHECKS.test("12 no net, no run", BoundaryAnswersTest::promise12NoNetNoRun);
        CHECKS.test("12 every net", BoundaryAnswersTest::promise12EveryNet);
        CHECKS.test("13 no run", BoundaryAnswersTest::promise13NoRun);
        CHECKS.test("13 none", BoundaryAnswersTest::promise13None);
        CHECKS.test("14 no run", BoundaryAnswersTest::promise14NoRun);
        CHECKS.test("14 no such place", BoundaryAnswersTest::promise14NoSuchPlace);
        CHECKS.test("14 first and last", BoundaryAnswersTest::promise14FirstAndLast);
        CHECKS.test("15 no such", BoundaryAnswersTest::promise15NoSuch);
        CHECKS.test("15 without a run", BoundaryAnswersTest::promise15WithoutARun);
        CHECKS.test("15 at most", BoundaryAnswersTest::promise15AtMost);
        CHECKS.end("BoundaryAnswersTest");
    }

    private static void promise9NoRun() {
        TrackRoutes r = Scenes.cross();
        for (int k = 0; k < 4; k++) {
            int what = k;
            CHECKS.illegalState("what " + what, () -> r.piece(0, 0, what));
        }
        for (int k : Beyond.ints(2)) {
            CHECKS.illegalState("no run is named before k " + k, () -> r.piece(0, k, 0));
        }
        for (int net : Beyond.ints(2)) {
            CHECKS.outOfBounds("net " + net + " is named before no run", () -> r.piece(net, 0, 0));
        }
        for (int what : Beyond.ints(4)) {
            CHECKS.outOfBounds("what " + what + " is named before no run", () -> r.piece(0, 0, what));
        }
        CHECKS.outOfBounds("all wrong", () -> r.piece(-1, -1, -1));
    }

    private static void promise9NetAndWhat() {
        TrackRoutes r = Scenes.cross();
        r.run(0);
        for (int net : Beyond.ints(2)) {
            CHECKS.outOfBounds("net " + net, () -> r.piece(net, 0, 0));
        }
        for (int what : Beyond.ints(4)) {
            CHECKS.outOfBounds("what " + what, () -> r.piece(0, 0, what));
        }
        CHECKS.dueCall("first net", () -> r.piece(0, 0, 1), 0);
        CHECKS.dueCall("last net", () -> r.piece(1, 0, 1), 2);
        CHECKS.outOfBounds("no net", () -> new TrackRoutes(1, 1, 1).piece(0, 0, 0));
    }

    private static void promise9WhichPlace() {
        TrackRoutes r = Scenes.cross();
        r.run(0);
        for (int k : Beyond.ints(2)) {
            for (int w = 0; w < 4; w++) {
                int what = w;
                CHECKS.outOfBounds("k " + k + ", what " + what, () -> r.piece(0, k, what));
            }
        }
        CHECKS.dueCall("last x", () -> r.piece(0, 1, 1), 4);
        CHECKS.dueCall("last y", () -> r.piece(0, 1, 2), 1);
        CHECKS.dueCall("last layer", () -> r.piece(0, 1, 0), 0);
        CHECKS.dueCall("last via", () -> r.piece(0, 1, 3), 0);
    }

    private static void promise9Nowhere() {
        TrackRoutes r = new TrackRoutes(1, 3, 1);
        int noPin = r.net();
        int noAccess = r.net();
        r.pin(noAccess);
        r.run(1);
        for (int what = 0; what < 4; what++) {
            int kind = what;
            CHECKS.outOfBounds("no pin, what " + what, () -> r.piece(noPin, 0, kind));
            CHECKS.outOfBounds("no access place, what " + what, () -> r.piece(noAccess, 0, kind));
        }
        CHECKS.outOfBounds("k below 0", () -> r.piece(noPin, -1, 0));
    }

    /** Walls between rows make the way wind through all of them: 24 places each and one between two, 13 rows. */
    private static void promise9LongRoute() {
        TrackRoutes r = new TrackRoutes(1, 24, 24);
        for (int wall = 1; wall < 24; wall += 2) {
            boolean right = wall % 4 == 1;
            r.bar(0, right ? 0 : 1, wall, right ? 22 : 23, wall);
        }
        int net = Scenes.netAt(r, 0, 0, 0, 23);
        CHECKS.due("joined", r.run(1), 0);
        CHECKS.dueCall("the last of 300 places", () -> r.piece(net, 299, 2), 23);
        CHECKS.dueCall("its x", () -> r.piece(net, 299, 1), 0);
        CHECKS.outOfBounds("one beyond", () -> r.piece(net, 300, 2));
    }

    /** By layer, then y, then x; pins come in another order. */
    private static void promise9Order() {
        TrackRoutes r = new TrackRoutes(2, 2, 2);
        int net = r.net();
        for (int place = 7; place >= 0; place--) {
            Scenes.pinAt(r, net, place / 4, place % 2, place / 2 % 2);
        }
        r.run(0);
        CHECKS.due("order", Scenes.pieces(r, net), "0,0,0 0,1,0 0,0,1 0,1,1 1,0,0 1,1,0 1,0,1 1,1,1");
        Scenes.pinAt(r, net, 0, 0, 0);
        r.run(0);
        CHECKS.outOfBounds("two pins at one place are one", () -> r.piece(net, 8, 0));
    }

    private static void promise9Vias() {
        TrackRoutes r = new TrackRoutes(3, 1, 1);
        int net = r.net();
        Scenes.pinAt(r, net, 0, 0, 0);
        Scenes.pinAt(r, net, 1, 0, 0);
        r.run(0);
        CHECKS.due("no route, no via", Scenes.pieces(r, net), "0,0,0 1,0,0");
        r.run(1);
        CHECKS.due("to the layer above alone", Scenes.pieces(r, net), "0,0,0^ 1,0,0");
        TrackRoutes lost = new TrackRoutes(2, 3, 2);
        int tall = lost.net();
        Scenes.pinAt(lost, tall, 0, 0, 0);
        Scenes.pinAt(lost, tall, 1, 0, 0);
        Scenes.pinAt(lost, tall, 0, 2, 0);
        lost.bar(0, 1, 0, 1, 1);
        lost.bar(1, 1, 0, 1, 1);
        lost.run(2);
        CHECKS.due("a lost route has none", Scenes.pieces(lost, tall), "0,0,0 0,2,0 1,0,0");
    }

    private static void promise10NoPinNoRun() {
        TrackRoutes r = new TrackRoutes(1, 3, 1);
        CHECKS.outOfBounds("no pin is named before no run", () -> r.chosen(0));
        r.pin(r.net());
        r.pin(0);
        CHECKS.illegalState("no run", () -> r.chosen(0));
        for (int pin : Beyond.ints(2)) {
            CHECKS.outOfBounds("pin " + pin + " is named before no run", () -> r.chosen(pin));
        }
        r.run(0);
        for (int pin : Beyond.ints(2)) {
            CHECKS.outOfBounds("pin " + pin, () -> r.chosen(pin));
        }
        CHECKS.dueCall("first pin, no access place", () -> r.chosen(0), TrackRoutes.NONE);
        CHECKS.dueCall("last pin, no access place", () -> r.chosen(1), TrackRoutes.NONE);
    }

    /** Each bar takes the next access place away, until there is none. */
    private static void promise10FirstToLast() {
        TrackRoutes r = new TrackRoutes(1, 4, 1);
        r.pin(r.net());
        for (int x = 3; x >= 0; x--) {
            r.access(0, 0, x, 0);
        }
        for (int k = 0; k < 4; k++) {
            r.run(0);
            CHECKS.due("in the order in which they came: " + k, r.chosen(0), k);
            r.bar(0, 3 - k, 0, 3 - k, 0);
        }
        r.run(0);
        CHECKS.due("none left", r.chosen(0), TrackRoutes.NONE);
    }

    private static void promise10Closed() {
        TrackRoutes r = new TrackRoutes(1, 3, 1);
        int net = Scenes.netAt(r, 0, 0, 2, 0);
        r.bar(0, 2, 0, 2, 0);
        CHECKS.due("its net is closed", r.run(1), 1);
        CHECKS.due("the other pin has its place", r.chosen(0) + " " + r.chosen(1), "0 -1");
        CHECKS.due("where it stands", Scenes.pieces(r, net), "0,0,0");
    }

    private static void promise10LastPin() {
        TrackRoutes r = Scenes.full();
        r.run(0);
        CHECKS.due("last pin", r.chosen(39), 0);
        CHECKS.due("one without a place", r.chosen(37), TrackRoutes.NONE);
        CHECKS.outOfBounds("one beyond", () -> r.chosen(40));
    }

    private static void promise11NoRun() {
        TrackRoutes r = Scenes.cross();
        CHECKS.illegalState("net", () -> r.open(0, 0));
        CHECKS.illegalState("why", () -> r.open(0, 1));
        CHECKS.illegalState("greatest k", () -> r.open(Integer.MAX_VALUE, 0));
        CHECKS.outOfBounds("what is named before no run", () -> r.open(0, 2));
        CHECKS.outOfBounds("what below 0 is named before no run", () -> r.open(0, -1));
        CHECKS.outOfBounds("k below 0 is named before no run", () -> r.open(-1, 0));
        CHECKS.outOfBounds("both wrong", () -> r.open(-1, 2));
    }

    private static void promise11NoSuch() {
        TrackRoutes r = Scenes.cross();
        r.run(0);
        for (int what : Beyond.ints(2)) {
            CHECKS.outOfBounds("what " + what, () -> r.open(0, what));
            CHECKS.outOfBounds("what " + what + " where there is none", () -> r.open(9, what));
        }
        for (int what = 0; what < 2; what++) {
            int kind = what;
            CHECKS.outOfBounds("k -1", () -> r.open(-1, kind));
            CHECKS.outOfBounds("least k", () -> r.open(Integer.MIN_VALUE, kind));
            CHECKS.dueCall("one beyond", () -> r.open(2, kind), TrackRoutes.NONE);
            CHECKS.dueCall("greatest k", () -> r.open(Integer.MAX_VALUE, kind), TrackRoutes.NONE);
        }
        CHECKS.due("the last one", r.open(1, 0) + " " + r.open(1, 1), "1 3");
    }

    private static void promise11AllOpen() {
        TrackRoutes r = new TrackRoutes(1, 3, 1);
        for (int net = 0; net < 16; net++) {
            r.pin(r.net());
        }
        CHECKS.due("as many as there can be", r.run(8), 16);
        for (int net = 0; net < 16; net++) {
            CHECKS.due("open " + net, r.open(net, 0) + " " + r.open(net, 1), net + " 1");
        }
        CHECKS.due("one beyond", r.open(16, 0) + " " + r.open(16, 1), "-1 -1");
    }

    private static void promise11NoneOpen() {
        TrackRoutes r = new TrackRoutes(1, 3, 1);
        r.net();
        r.run(0);
        CHECKS.due("none", r.open(0, 0) + " " + r.open(0, 1), "-1 -1");
        int open = r.net();
        r.pin(open);
        r.run(0);
        CHECKS.due("joined ones are left out", r.open(0, 0) + " " + r.open(1, 0), open + " -1");
    }

    private static void promise12NoNetNoRun() {
        TrackRoutes r = new TrackRoutes(1, 3, 1);
        CHECKS.outOfBounds("no net is named before no run", () -> r.joined(0));
        r.net();
        r.net();
        CHECKS.illegalState("no run", () -> r.joined(1));
        for (int net : Beyond.ints(2)) {
            CHECKS.outOfBounds("net " + net + " is named before no run", () -> r.joined(net));
        }
        r.run(0);
        for (int net : Beyond.ints(2)) {
            CHECKS.outOfBounds("net " + net, () -> r.joined(net));
        }
        CHECKS.dueCall("first net", () -> r.joined(0), true);
        CHECKS.dueCall("last net", () -> r.joined(1), true);
    }

    private static void promise12EveryNet() {
        TrackRoutes r = new TrackRoutes(1, 3, 1);
        for (int net = 0; net < 16; net++) {
            r.net();
        }
        for (int net = 1; net < 16; net += 2) {
            r.pin(net);
        }
        CHECKS.due("half are closed", r.run(0), 8);
        for (int net = 0; net < 16; net++) {
            CHECKS.due("joined " + net, r.joined(net), net % 2 == 0);
        }
    }

    private static void promise13NoRun() {
        TrackRoutes r = Scenes.cross();
        CHECKS.illegalState("no run", () -> r.broken(0));
        CHECKS.illegalState("greatest k", () -> r.broken(Integer.MAX_VALUE));
        CHECKS.outOfBounds("k below 0 is named before no run", () -> r.broken(-1));
        CHECKS.outOfBounds("least k is named before no run", () -> r.broken(Integer.MIN_VALUE));
    }

    /** Nets side by side, torn up, closed, without a way: no run leaves a clash, so there are never so many. */
    private static void promise13None() {
        TrackRoutes[] scenes = {new TrackRoutes(1, 1, 1), Scenes.cross(), Scenes.plus(), Scenes.full()};
        for (TrackRoutes r : scenes) {
            for (int rounds = 0; rounds <= 8; rounds++) {
                r.run(rounds);
                CHECKS.due("first", r.broken(0), TrackRoutes.NONE);
                CHECKS.due("greatest k", r.broken(Integer.MAX_VALUE), TrackRoutes.NONE);
            }
            CHECKS.outOfBounds("k -1", () -> r.broken(-1));
            CHECKS.outOfBounds("least k", () -> r.broken(Integer.MIN_VALUE));
        }
    }

    private static void promise14NoRun() {
        TrackRoutes r = Scenes.cross();
        CHECKS.illegalState("first place", () -> r.history(0, 0, 0));
        CHECKS.illegalState("last place", () -> r.history(0, 4, 2));
        CHECKS.outOfBounds("layer is named before no run", () -> r.history(1, 0, 0));
        CHECKS.outOfBounds("x is named before no run", () -> r.history(0, 5, 0));
        CHECKS.outOfBounds("y is named before no run", () -> r.history(0, 0, 3));
    }

    private static void promise14NoSuchPlace() {
        TrackRoutes r = new TrackRoutes(2, 5, 3);
        r.run(0);
        for (int layer : Beyond.ints(2)) {
            CHECKS.outOfBounds("layer " + layer, () -> r.history(layer, 0, 0));
        }
        for (long x : Beyond.longs(0, 4)) {
            CHECKS.outOfBounds("x " + x, () -> r.history(0, x, 0));
        }
        for (long y : Beyond.longs(0, 2)) {
            CHECKS.outOfBounds("y " + y, () -> r.history(0, 0, y));
        }
    }

    private static void promise14FirstAndLast() {
        TrackRoutes calm = new TrackRoutes(3, 3, 3);
        Scenes.netAt(calm, 0, 0, 2, 2);
        calm.run(1);
        CHECKS.due("0 where nothing was torn up, first", calm.history(0, 0, 0), 0);
        CHECKS.due("last", calm.history(2, 2, 2), 0);
        CHECKS.due("torn at the first place and beside it", tornAt(0, 0), "5 5 5 0 0 0");
        CHECKS.due("torn at the last place and beside it", tornAt(2, 2), "5 5 5 0 0 0");
    }

    /**
     * Net 0 goes along a layer's rim round the corner (c, c); net 1 comes up or down from layer 1 beside the corner,
     * and must go round it too.
     */
    private static String tornAt(int layer, int c) {
        TrackRoutes r = new TrackRoutes(3, 3, 3);
        int far = 2 - c;
        r.bar(layer, 1, 1, 1, 1);
        r.bar(layer, 1, far, 1, far);
        r.bar(layer, far, 1, far, 1);
        r.bar(layer, far, far, far, far);
        r.bar(1, 0, far, 2, far);
        r.bar(1, far, 0, far, 2);
        r.bar(1, 1, 1, 1, 1);
        r.bar(1, c, c, c, c);
        r.bar(2 - layer, 0, 0, 2, 2);
        int rim = r.net();
        Scenes.pinAt(r, rim, layer, far, c);
        Scenes.pinAt(r, rim, layer, c, far);
        int corner = r.net();
        Scenes.pinAt(r, corner, 1, 1, c);
        Scenes.pinAt(r, corner, 1, c, 1);
        r.run(1);
        return r.history(layer, c, c) + " " + r.history(layer, 1, c) + " " + r.history(layer, c, 1) + " "
            + r.history(layer, far, c) + " " + r.history(1, 1, c) + " " + r.history(2 - layer, c, c);
    }

    private static void promise15NoSuch() {
        TrackRoutes r = Scenes.cross();
        for (int what : Beyond.ints(6)) {
            CHECKS.outOfBounds("what " + what + " without a run", () -> r.count(what));
        }
        r.run(1);
        for (int what : Beyond.ints(6)) {
            CHECKS.outOfBounds("what " + what, () -> r.count(what));
        }
        CHECKS.due("first what to last", Scenes.counts(r), "2 4 0 1 1 1");
    }

    private static void promise15WithoutARun() {
        TrackRoutes r = Scenes.cross();
        CHECKS.due("none yet", Scenes.counts(r), "2 4 0 0 0 0");
        r.run(2);
        CHECKS.due("told", Scenes.counts(r), "2 4 0 2 1 3");
        CHECKS.due("told again", Scenes.counts(r), "2 4 0 2 1 3");
        r.net();
        CHECKS.due("changed since", Scenes.counts(r), "3 4 0 0 0 0");
        r.run(1);
        CHECKS.due("of the latest alone", Scenes.counts(r), "3 4 0 1 1 1");
        r.run(0);
        CHECKS.due("of one without a round", Scenes.counts(r), "3 4 0 0 0 0");
    }

    private static void promise15AtMost() {
        TrackRoutes r = Scenes.full();
        CHECKS.due("nets, pins, barred", Scenes.counts(r), "16 40 15 0 0 0");
        r.bar(0, 0, 0, 4, 2);
        CHECKS.due("all barred", r.count(2), 30);
        CHECKS.due("all but those without a pin are closed", r.run(8), 3);
        CHECKS.due("no round", Scenes.counts(r), "16 40 30 0 0 0");
    }
}
