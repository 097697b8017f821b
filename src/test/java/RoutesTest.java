/**
 * The sentences of '2 ROUTES' in their order, each by a case worked out by hand that comes out otherwise if the
 * sentence does not hold. The name of a case is the sentence's own words.
 */
public final class RoutesTest {
    private static final Checks CHECKS = new Checks();

    public static void main(String[] args) {
        runs();
        ways();
        tearing();
        CHECKS.end("RoutesTest");
    }

    private static void runs() {
        CHECKS.test("chosen places are found anew; there are no routes, all HISTORY .. is 0", RoutesTest::anew);
        CHECKS.test("Each net stands at the chosen places of its pins, always", RoutesTest::standsAlways);
        CHECKS.test("and at the places of its ROUTE", RoutesTest::standsAtItsRoute);
        CHECKS.test("In each ROUND, nets by numbers", RoutesTest::netsByNumbers);
        CHECKS.test("those that are not closed and not JOINED, are routed", RoutesTest::onlyThoseThatWait);
        CHECKS.test("as long as there are such, and as many as told at most", RoutesTest::rounds);
        CHECKS.test("A net with no pin, or one, is joined, if it is not closed", RoutesTest::noPinOrOne);
        CHECKS.test("OPEN are the nets that are not joined in the end, by numbers: WHY", RoutesTest::why);
    }

    private static void ways() {
        CHECKS.test("its TREE is the chosen place of its first pin", RoutesTest::firstPin);
        CHECKS.test("As long as a pin's chosen place is not in it, it gets a WAY", RoutesTest::oneWayAfterAnother);
        CHECKS.test("from a place in it", RoutesTest::fromAnyPlaceOfTheTree);
        CHECKS.test("over places that are FREE", RoutesTest::free);
        CHECKS.test("Its COST: .. for each place that it steps onto its history", RoutesTest::historyCosts);
        CHECKS.test("It is one of the least cost", RoutesTest::leastCost);
        CHECKS.test("of these to the place that is first in the order", RoutesTest::firstEnd);
        CHECKS.test("from its end back .. of several the first of", RoutesTest::fromTheEndBack);
    }

    private static void tearing() {
        CHECKS.test("If there is none", RoutesTest::onlyIfThereIsNone);
        CHECKS.test("clashes with no chosen place of another net", RoutesTest::notOverChosenPlaces);
        CHECKS.test("each one at which it clashes with a route costs 20 more", RoutesTest::twentyMore);
        CHECKS.test("All nets with whose routes it clashes there lose their routes", RoutesTest::allLose);
        CHECKS.test("the history of those places .. becomes 5 more", RoutesTest::fiveMore);
        CHECKS.test("If there is none of these either, the net loses its own route", RoutesTest::losesItsOwn);
        CHECKS.test("and it is over for this round", RoutesTest::overForThisRound);
        CHECKS.test("the route is the tree, when all pins are in it: the net is JOINED", RoutesTest::joined);
    }

    private static void anew() {
        TrackRoutes r = Scenes.plus();
        r.run(3);
        CHECKS.due("some history", r.history(0, 2, 1), 25);
        CHECKS.due("a route", Scenes.pieces(r, 1), "0,2,0 0,2,1 0,2,2");
        r.run(0);
        CHECKS.due("no history", r.history(0, 2, 1), 0);
        CHECKS.due("no route", Scenes.pieces(r, 1), "0,2,0 0,2,2");
        r.access(0, 0, 1, 1);
        r.bar(0, 0, 1, 0, 1);
        r.run(0);
        CHECKS.due("another place is chosen", r.chosen(0) + " " + Scenes.pieces(r, 0), "1 0,1,1 0,4,1");
        r.bar(0, 1, 1, 1, 1);
        r.run(0);
        CHECKS.due("none is", Scenes.opens(r), "0:1 1:3");
        r.access(0, 0, 3, 1);
        r.run(0);
        CHECKS.due("one is, and the net is not closed any more", Scenes.opens(r), "0:3 1:3");
    }

    /** Before a round, without a way, torn up, closed, and with a route. */
    private static void standsAlways() {
        TrackRoutes r = Scenes.plus();
        int closed = Scenes.netAt(r, 1, 1);
        r.pin(closed);
        CHECKS.due("the closed one's pin is in the way of the row", r.run(1), 2);
        CHECKS.due("no way, closed", Scenes.opens(r), "0:2 2:1");
        CHECKS.due("without a way", Scenes.pieces(r, 0), "0,0,1 0,4,1");
        CHECKS.due("with a route", Scenes.pieces(r, 1), "0,2,0 0,2,1 0,2,2");
        CHECKS.due("closed", Scenes.pieces(r, closed), "0,1,1");
        TrackRoutes torn = Scenes.plus();
        torn.run(1);
        CHECKS.due("torn up", Scenes.pieces(torn, 0), "0,0,1 0,4,1");
    }

    /** With a space of 1 the row beside a route is not free, though no pin is near it. */
    private static void standsAtItsRoute() {
        TrackRoutes r = new TrackRoutes(1, 9, 5);
        r.rule(0, 0, 1);
        Scenes.netAt(r, 0, 0, 8, 0);
        int near = Scenes.netAt(r, 3, 2, 5, 2);
        r.bar(0, 4, 2, 4, 4);
        CHECKS.due("a way beside the route alone", r.run(1), 1);
        CHECKS.due("which is torn up", Scenes.opens(r), "0:3");
        CHECKS.due("for it", Scenes.pieces(r, near), "0,3,1 0,4,1 0,5,1 0,3,2 0,5,2");
        CHECKS.due("with tearing up", Scenes.counts(r), "2 4 3 1 1 1");
    }

    private static void netsByNumbers() {
        TrackRoutes r = new TrackRoutes(1, 5, 3);
        int row = r.net();
        int column = r.net();
        Scenes.pinAt(r, column, 0, 2, 0);
        Scenes.pinAt(r, column, 0, 2, 2);
        Scenes.pinAt(r, row, 0, 0, 1);
        Scenes.pinAt(r, row, 0, 4, 1);
        r.run(1);
        CHECKS.due("net 0 first, though its pins came later", Scenes.opens(r), "0:3");
    }

    /** Net 2 has to be routed in each round, net 0 is closed, and net 1 keeps the way that it found first. */
    private static void onlyThoseThatWait() {
        TrackRoutes r = new TrackRoutes(1, 5, 3);
        int closed = Scenes.netAt(r, 0, 0, 4, 0);
        r.pin(closed);
        int kept = Scenes.netAt(r, 0, 1, 1, 1);
        Scenes.netAt(r, 0, 2, 4, 2);
        r.bar(0, 3, 0, 3, 2);
        CHECKS.due("two are open", r.run(4), 2);
        CHECKS.due("four rounds, one way", Scenes.counts(r), "3 7 3 4 1 0");
        CHECKS.due("the closed one has none", Scenes.pieces(r, closed), "0,0,0 0,4,0");
        CHECKS.due("the other has its own", Scenes.pieces(r, kept), "0,0,1 0,1,1");
    }

    private static void rounds() {
        TrackRoutes r = Scenes.plus();
        for (int told = 0; told <= 8; told++) {
            r.run(told);
            CHECKS.due("as many as told", r.count(3), told);
        }
        TrackRoutes one = new TrackRoutes(1, 3, 1);
        Scenes.netAt(one, 0, 0, 2, 0);
        one.pin(one.net());
        one.run(8);
        CHECKS.due("none when the rest is closed", one.count(3), 1);
    }

    private static void noPinOrOne() {
        TrackRoutes r = new TrackRoutes(1, 3, 1);
        r.net();
        Scenes.netAt(r, 0, 0);
        r.pin(r.net());
        Scenes.netAt(r, 2, 0, 2, 0);
        CHECKS.due("a closed one, and one with two pins", r.run(0), 2);
        CHECKS.due("joined", r.joined(0) + " " + r.joined(1) + " " + r.joined(2) + " " + r.joined(3),
            "true true false false");
    }

    /** Rows 0 and 2 and column 2 of plus(), and a walled off net: each why, and those that are joined between. */
    private static void why() {
        TrackRoutes r = new TrackRoutes(1, 7, 5);
        r.net();
        int row = Scenes.netAt(r, 0, 1, 4, 1);
        r.pin(r.net());
        int column = Scenes.netAt(r, 2, 0, 2, 2);
        int walled = Scenes.netAt(r, 0, 4, 6, 4);
        r.bar(0, 5, 0, 5, 4);
        CHECKS.due("all that need a way", r.run(0), 4);
        CHECKS.due("never routed", Scenes.opens(r), row + ":3 2:1 " + column + ":3 " + walled + ":3");
        CHECKS.due("after a round", r.run(1), 3);
        CHECKS.due("lost, closed, no way", Scenes.opens(r), row + ":3 2:1 " + walled + ":2");
        CHECKS.due("not one more", r.open(3, 0) + " " + r.open(3, 1), "-1 -1");
        r.run(0);
        CHECKS.due("never routed in the latest run", r.open(3, 0) + ":" + r.open(3, 1), walled + ":3");
    }

    private static void firstPin() {
        TrackRoutes r = Scenes.even(3, 3);
        int net = Scenes.netAt(r, 0, 0, 2, 2);
        Scenes.dueRoute(CHECKS, "from (0, 0), and back to it by the lesser x", r, net, "0,0,0 0,0,1 0,0,2 0,1,2 0,2,2");
        TrackRoutes turned = Scenes.even(3, 3);
        int other = Scenes.netAt(turned, 2, 2, 0, 0);
        Scenes.dueRoute(CHECKS, "from (2, 2), and back to it by the greater x", turned, other,
            "0,0,0 0,1,0 0,2,0 0,2,1 0,2,2");
    }

    /** The nearer pin comes first, though its number is greater: so there are two ways, and not one over both. */
    private static void oneWayAfterAnother() {
        TrackRoutes r = new TrackRoutes(1, 5, 1);
        int net = Scenes.netAt(r, 0, 0, 4, 0, 2, 0);
        Scenes.dueRoute(CHECKS, "both", r, net, "0,0,0 0,1,0 0,2,0 0,3,0 0,4,0");
        CHECKS.due("two ways", r.count(4), 2);
        TrackRoutes same = new TrackRoutes(1, 5, 1);
        int twice = Scenes.netAt(same, 0, 0, 2, 0, 2, 0, 0, 0);
        Scenes.dueRoute(CHECKS, "pins at one place", same, twice, "0,0,0 0,1,0 0,2,0");
        CHECKS.due("one way", same.count(4), 1);
    }

    private static void fromAnyPlaceOfTheTree() {
        TrackRoutes r = new TrackRoutes(1, 5, 3);
        int net = Scenes.netAt(r, 0, 0, 4, 0, 2, 2);
        Scenes.dueRoute(CHECKS, "from the middle of the first way", r, net,
            "0,0,0 0,1,0 0,2,0 0,3,0 0,4,0 0,2,1 0,2,2");
    }

    /** Row 1 is barred in the middle, row 0 has another net's pin there, row 2 another net's route, row 3 is free. */
    private static void free() {
        TrackRoutes r = new TrackRoutes(2, 3, 4);
        r.bar(0, 1, 1, 1, 1);
        Scenes.netOn(r, 0, 1, 0);
        r.bar(1, 0, 0, 0, 3);
        r.bar(1, 2, 0, 2, 3);
        int over = Scenes.netOn(r, 1, 1, 1, 1, 1, 3, 0, 1, 2);
        int net = Scenes.netAt(r, 0, 1, 2, 1);
        CHECKS.due("all joined", r.run(1), 0);
        CHECKS.due("none torn", r.count(5), 0);
        CHECKS.due("the other comes down there", Scenes.pieces(r, over), "0,1,2^ 1,1,1 1,1,2 1,1,3");
        CHECKS.due("by row 3", Scenes.pieces(r, net), "0,0,1 0,2,1 0,0,2 0,2,2 0,0,3 0,1,3 0,2,3");
    }

    /**
     * Net 0 finds its way down column 2, and none to its third pin; in round 2 it tears net 1 up at (2, 2), and has
     * none again. Then straight on net 1 pays 4 and the history of 5; round that place it is 4 and two steps across:
     * 4 with a jog of 1, 6 with one of 2.
     */
    private static void historyCosts() {
        for (int jog = 1; jog <= 2; jog++) {
            TrackRoutes r = new TrackRoutes(1, 7, 5);
            r.rule(1, 0, jog);
            Scenes.netAt(r, 2, 0, 2, 4, 6, 0);
            int row = Scenes.netAt(r, 0, 2, 4, 2);
            r.bar(0, 5, 0, 5, 4);
            r.run(1);
            CHECKS.due("straight at first", Scenes.pieces(r, row), "0,0,2 0,1,2 0,2,2 0,3,2 0,4,2");
            r.run(2);
            CHECKS.due("history", r.history(0, 2, 2), 5);
            CHECKS.due("with a jog of " + jog, Scenes.pieces(r, row), jog == 1
                ? "0,0,1 0,1,1 0,2,1 0,3,1 0,0,2 0,3,2 0,4,2" : "0,0,2 0,1,2 0,2,2 0,3,2 0,4,2");
            CHECKS.due("a free way", Scenes.counts(r), "2 5 5 2 3 1");
        }
        TrackRoutes torn = Scenes.cross();
        torn.run(2);
        CHECKS.due("after two rounds", torn.history(0, 2, 1) + " " + torn.history(0, 1, 1), "10 5");
        CHECKS.due("8, 20 and 10 straight through the row, 10 and 20 by (1, 1)", Scenes.pieces(torn, 1),
            "0,1,0 0,2,0 0,1,1 0,1,2 0,2,2");
    }

    /** Costs that come to a search in an order that is not their own. */
    private static void leastCost() {
        TrackRoutes up = new TrackRoutes(1, 4, 3);
        int near = Scenes.netAt(up, 1, 2, 0, 0);
        Scenes.dueRoute(CHECKS, "9, by the greater x", up, near, "0,0,0 0,1,0 0,1,1 0,1,2");
        TrackRoutes down = new TrackRoutes(1, 4, 5);
        down.rule(1, 0, 4);
        int far = Scenes.netAt(down, 0, 1, 3, 4);
        Scenes.dueRoute(CHECKS, "18, by the lesser x", down, far, "0,0,1 0,0,2 0,0,3 0,0,4 0,1,4 0,2,4 0,3,4");
        TrackRoutes over = new TrackRoutes(2, 2, 2);
        over.rule(1, 0, 14);
        int above = Scenes.netAt(over, 1, 1, 1, 0);
        Scenes.dueRoute(CHECKS, "11 by the layer above, 15 across", over, above, "0,1,0^ 0,1,1^ 1,1,0 1,1,1");
        TrackRoutes twice = new TrackRoutes(1, 2, 3);
        int both = Scenes.netAt(twice, 1, 1, 0, 2, 1, 0);
        Scenes.dueRoute(CHECKS, "4 to (1, 0), then 5 to (0, 2)", twice, both, "0,1,0 0,1,1 0,0,2 0,1,2");
        CHECKS.due("both free", twice.count(4) + " " + twice.count(5), "2 0");
        TrackRoutes wall = new TrackRoutes(1, 7, 5);
        int round = Scenes.netAt(wall, 0, 2, 6, 2);
        wall.bar(0, 3, 1, 3, 3);
        wall.bar(0, 0, 1, 0, 1);
        wall.bar(0, 1, 0, 2, 0);
        wall.bar(0, 3, 0, 3, 0);
        Scenes.dueRoute(CHECKS, "the only gap", wall, round,
            "0,0,2 0,4,2 0,5,2 0,6,2 0,0,3 0,4,3 0,0,4 0,1,4 0,2,4 0,3,4 0,4,4");
    }

    /** Two ends of the same cost: by layer before y, by y before x, by x. The second way goes on from the first. */
    private static void firstEnd() {
        TrackRoutes layer = new TrackRoutes(2, 1, 3);
        layer.rule(1, 0, 0);
        layer.rule(2, 0, 1);
        int byLayer = Scenes.netOn(layer, 0, 0, 0, 1, 0, 1, 0, 0, 2);
        Scenes.dueRoute(CHECKS, "(0, 0, 2) before (1, 0, 1)", layer, byLayer, "0,0,0 0,0,1^ 0,0,2 1,0,1");
        TrackRoutes y = Scenes.even(3, 3);
        int byY = Scenes.netAt(y, 2, 2, 0, 1, 1, 0);
        Scenes.dueRoute(CHECKS, "(1, 0) before (0, 1)", y, byY, "0,1,0 0,2,0 0,0,1 0,1,1 0,2,1 0,2,2");
        TrackRoutes x = new TrackRoutes(2, 3, 1);
        x.rule(2, 0, 25);
        int byX = Scenes.netOn(x, 0, 1, 0, 1, 2, 0, 1, 0, 0);
        Scenes.dueRoute(CHECKS, "(1, 0, 0) before (1, 2, 0), then on by layer 1", x, byX,
            "0,0,0^ 0,1,0 1,0,0 1,1,0 1,2,0");
    }

    private static void fromTheEndBack() {
        TrackRoutes lesserX = Scenes.even(3, 3);
        lesserX.bar(0, 1, 1, 1, 1);
        int a = Scenes.netAt(lesserX, 0, 0, 2, 2);
        Scenes.dueRoute(CHECKS, "the lesser x before the lesser y", lesserX, a, "0,0,0 0,0,1 0,0,2 0,1,2 0,2,2");
        TrackRoutes sides = Scenes.even(3, 3);
        int b = Scenes.netAt(sides, 1, 2, 1, 0);
        sides.bar(0, 1, 1, 1, 1);
        Scenes.dueRoute(CHECKS, "the lesser x before the greater x", sides, b, "0,0,0 0,1,0 0,0,1 0,0,2 0,1,2");
        TrackRoutes greaterX = Scenes.even(3, 3);
        int c = Scenes.netAt(greaterX, 2, 0, 0, 2);
        Scenes.dueRoute(CHECKS, "the greater x before the lesser y", greaterX, c, "0,2,0 0,2,1 0,0,2 0,1,2 0,2,2");
        TrackRoutes ys = Scenes.even(3, 3);
        int d = Scenes.netAt(ys, 0, 1, 2, 1);
        ys.bar(0, 1, 1, 1, 1);
        Scenes.dueRoute(CHECKS, "the lesser y before the greater y", ys, d, "0,0,0 0,1,0 0,2,0 0,0,1 0,2,1");
        backBetweenLayers();
    }

    /** All steps cost 1: from the end on layer 1 the ways of the least cost come from y and from another layer. */
    private static void backBetweenLayers() {
        TrackRoutes below = new TrackRoutes(2, 1, 2);
        below.rule(1, 0, 0);
        below.rule(2, 0, 1);
        int a = Scenes.netOn(below, 0, 0, 1, 1, 0, 0);
        Scenes.dueRoute(CHECKS, "the greater y before the layer below", below, a, "0,0,1^ 1,0,0 1,0,1");
        TrackRoutes above = new TrackRoutes(2, 1, 2);
        above.rule(1, 0, 0);
        above.rule(2, 0, 1);
        int b = Scenes.netOn(above, 1, 0, 1, 0, 0, 0);
        Scenes.dueRoute(CHECKS, "the greater y before the layer above", above, b, "0,0,0 0,0,1^ 1,0,1");
        TrackRoutes both = new TrackRoutes(3, 3, 1);
        both.bar(1, 1, 0, 1, 0);
        int c = Scenes.netOn(both, 1, 0, 0, 1, 2, 0);
        Scenes.dueRoute(CHECKS, "the layer below before the layer above", both, c, "0,0,0^ 0,1,0 0,2,0^ 1,0,0 1,2,0");
    }

    /** By the layer above the row costs 4, two jogs of 49 and two vias of 50, through the column 4 and 20. */
    private static void onlyIfThereIsNone() {
        TrackRoutes r = new TrackRoutes(2, 5, 3);
        r.rule(2, 0, 50);
        r.rule(1, 1, 49);
        Scenes.netAt(r, 2, 0, 2, 2);
        int row = Scenes.netAt(r, 0, 1, 4, 1);
        r.bar(1, 0, 0, 4, 0);
        r.bar(1, 0, 2, 4, 2);
        CHECKS.due("both joined", r.run(1), 0);
        CHECKS.due("none torn", Scenes.counts(r), "2 4 10 1 2 0");
        CHECKS.due("over it", Scenes.pieces(r, row), "0,0,1 0,1,1^ 0,3,1^ 0,4,1 1,1,1 1,2,1 1,3,1");
        r.bar(1, 2, 1, 2, 1);
        CHECKS.due("through it then", r.run(1), 1);
        CHECKS.due("one torn", Scenes.counts(r) + " " + r.history(0, 2, 1), "2 4 11 1 1 1 5");
    }

    /** A route may be torn up, but not where a pin is near: not by the way that is shorter by far. */
    private static void notOverChosenPlaces() {
        TrackRoutes r = new TrackRoutes(1, 3, 4);
        r.rule(0, 0, 1);
        int column = Scenes.netAt(r, 1, 0);
        int net = Scenes.netAt(r, 0, 2, 2, 2);
        r.bar(0, 1, 2, 1, 3);
        CHECKS.due("(1, 1) is next to the pin", r.run(2), 1);
        CHECKS.due("no way", Scenes.opens(r), net + ":2");
        r.rule(0, 0, 0);
        CHECKS.due("without a space there is one", r.run(1), 0);
        r.shield(column);
        CHECKS.due("a shield is as good", r.run(1), 1);
        TrackRoutes barred = new TrackRoutes(1, 3, 1);
        Scenes.netAt(barred, 0, 0, 2, 0);
        barred.bar(0, 1, 0, 1, 0);
        CHECKS.due("nor over what is barred", barred.run(8), 1);
        CHECKS.due("in any round", Scenes.counts(barred), "1 2 1 8 0 0");
    }

    /**
     * A row on layer 0 with a wall in its way. Over it on layer 1 it clashes at three places with columns 4 and 6, with
     * both of them in the middle; on layer 2 at one place with column 5, which costs two more vias of layer 1.
     */
    private static TrackRoutes wallAndColumns(int upperVia) {
        TrackRoutes r = new TrackRoutes(3, 11, 7);
        r.rule(0, 1, 1);
        r.rule(2, 1, upperVia);
        Scenes.netOn(r, 1, 4, 0, 1, 4, 6);
        Scenes.netOn(r, 1, 6, 0, 1, 6, 6);
        Scenes.netOn(r, 2, 5, 0, 2, 5, 6);
        Scenes.netOn(r, 0, 0, 3, 0, 10, 3);
        r.bar(0, 5, 0, 5, 6);
        return r;
    }

    /** Layer 1: 8 along, 8 across, 10 for vias, 60. Layer 2: 10 along, 10 and two vias of layer 1, 20. */
    private static void twentyMore() {
        int[] upperVias = {15, 22, 23, 24, 32};
        String[] due = {"2:3", "2:3", "0:3 1:3", "0:3 1:3", "0:3 1:3"};
        for (int k = 0; k < upperVias.length; k++) {
            TrackRoutes r = wallAndColumns(upperVias[k]);
            r.run(1);
            CHECKS.due("86, or 40 and two vias of " + upperVias[k], Scenes.opens(r), due[k]);
            CHECKS.due("three ways without, one with tearing up", Scenes.counts(r), "4 8 7 1 3 1");
        }
    }

    private static void allLose() {
        TrackRoutes r = wallAndColumns(24);
        CHECKS.due("two are open", r.run(1), 2);
        CHECKS.due("one route is left", r.joined(0) + " " + r.joined(1) + " " + r.joined(2), "false false true");
        CHECKS.due("first", Scenes.pieces(r, 0), "1,4,0 1,4,6");
        CHECKS.due("second", Scenes.pieces(r, 1), "1,6,0 1,6,6");
        CHECKS.due("third", Scenes.pieces(r, 2), "2,5,0 2,5,1 2,5,2 2,5,3 2,5,4 2,5,5 2,5,6");
        CHECKS.due("the way", Scenes.pieces(r, 3),
            "0,0,3 0,1,3 0,2,3 0,3,3 0,4,3^ 0,6,3^ 0,7,3 0,8,3 0,9,3 0,10,3 1,4,3 1,5,3 1,6,3");
        besideAShield(0);
        besideAShield(1);
    }

    /** Net 1 has to go along row 1 under the middle of net 0, which it does not touch: but one of both is shielded. */
    private static void besideAShield(int shielded) {
        TrackRoutes r = new TrackRoutes(1, 9, 3);
        Scenes.netAt(r, 0, 0, 8, 0);
        Scenes.netAt(r, 3, 2, 5, 2);
        r.bar(0, 4, 2, 4, 2);
        CHECKS.due("side by side", r.run(1), 0);
        r.shield(shielded);
        CHECKS.due("shielded " + shielded, r.run(1), 1);
        CHECKS.due("the row lost its route", Scenes.opens(r) + " " + Scenes.pieces(r, 0), "0:3 0,0,0 0,8,0");
        CHECKS.due("history", r.history(0, 3, 1) + " " + r.history(0, 4, 1) + " " + r.history(0, 3, 2), "5 5 0");
    }

    private static void fiveMore() {
        TrackRoutes r = wallAndColumns(24);
        r.run(1);
        StringBuilder past = new StringBuilder();
        for (int x = 0; x < 11; x++) {
            past.append(r.history(1, x, 3)).append(' ');
        }
        CHECKS.due("5 where it clashes, with two nets too", past.toString(), "0 0 0 0 5 5 5 0 0 0 0 ");
        int others = 0;
        for (int x = 0; x < 11; x++) {
            others += r.history(0, x, 3) + r.history(1, x, 2) + r.history(1, x, 4) + r.history(2, x, 3);
        }
        CHECKS.due("0 where it does not, on the way or beside it", others, 0);
        TrackRoutes again = Scenes.plus();
        for (int rounds = 1; rounds <= 8; rounds++) {
            again.run(rounds);
            CHECKS.due("5 more each time", again.history(0, 2, 1), 10 * rounds - 5);
        }
    }

    /** Net 1 tears net 0 up on its first way, and has no second one: what it has torn up stays so. */
    private static void losesItsOwn() {
        TrackRoutes r = new TrackRoutes(1, 7, 3);
        Scenes.netAt(r, 0, 1, 4, 1);
        int walled = Scenes.netAt(r, 2, 0, 2, 2, 6, 0);
        r.bar(0, 5, 0, 5, 2);
        CHECKS.due("both are open", r.run(1), 2);
        CHECKS.due("lost, no way", Scenes.opens(r), "0:3 1:2");
        CHECKS.due("its pins alone", Scenes.pieces(r, walled), "0,2,0 0,6,0 0,2,2");
        CHECKS.due("both ways count", Scenes.counts(r) + " " + r.history(0, 2, 1), "2 5 3 1 1 1 5");
        losesItsVias();
    }

    /** Of any number: the net finds a way up from its first pin, and none to its third. */
    private static void losesItsVias() {
        for (int before = 0; before < 16; before++) {
            TrackRoutes r = new TrackRoutes(2, 3, 1);
            for (int other = 0; other < before; other++) {
                r.net();
            }
            int net = Scenes.netOn(r, 0, 0, 0, 1, 0, 0, 0, 2, 0);
            r.bar(0, 1, 0, 1, 0);
            r.bar(1, 1, 0, 1, 0);
            CHECKS.due("one is open", r.run(1), 1);
            CHECKS.due("one way was found", r.count(4), 1);
            CHECKS.due("no via is left to net " + net, Scenes.pieces(r, net), "0,0,0 0,2,0 1,0,0");
        }
    }

    /** Net 0 is tried once in each round, finding a way to its nearer pin; net 1 comes after it in the first. */
    private static void overForThisRound() {
        for (int rounds = 1; rounds <= 8; rounds++) {
            TrackRoutes r = new TrackRoutes(1, 5, 2);
            Scenes.netAt(r, 0, 0, 2, 0, 4, 0);
            int after = Scenes.netAt(r, 0, 1, 2, 1);
            r.bar(0, 3, 0, 3, 1);
            CHECKS.due("one is open", r.run(rounds), 1);
            CHECKS.due("the other is joined", r.joined(after), true);
            CHECKS.due("ways of " + rounds, Scenes.counts(r), "2 5 2 " + rounds + " " + (rounds + 1) + " 0");
        }
    }

    private static void joined() {
        TrackRoutes r = new TrackRoutes(2, 4, 3);
        int net = Scenes.netOn(r, 0, 0, 0, 0, 3, 0, 1, 1, 2, 0, 1, 0);
        r.run(0);
        CHECKS.due("not without a way", r.joined(net), false);
        Scenes.dueRoute(CHECKS, "all places of three ways", r, net, "0,0,0 0,1,0^ 0,2,0 0,3,0 1,1,0 1,1,1 1,1,2");
        CHECKS.due("three ways", r.count(4), 3);
        r.bar(1, 0, 2, 3, 2);
        r.run(1);
        CHECKS.due("not with a pin closed", r.joined(net), false);
    }
}
