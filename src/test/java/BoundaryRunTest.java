/**
 * Promise 8, and the terms that it rests on ('Terms', '2 ROUTES'), at their boundaries: each case that a sentence of
 * the document names, by itself.
 */
public final class BoundaryRunTest {
    private static final Checks CHECKS = new Checks();

    public static void main(String[] args) {
        CHECKS.test("rounds out of range", BoundaryRunTest::roundsOutOfRange);
        CHECKS.test("rounds within range", BoundaryRunTest::roundsWithinRange);
        CHECKS.test("rounds as long as there are such", BoundaryRunTest::roundsAsLongAsThereAreSuch);
        CHECKS.test("no round when none waits", BoundaryRunTest::noRoundWhenNoneWaits);
        CHECKS.test("no pin or one", BoundaryRunTest::noPinOrOne);
        CHECKS.test("pins at one place", BoundaryRunTest::pinsAtOnePlace);
        CHECKS.test("how far a clash reaches", BoundaryRunTest::howFarAClashReaches);
        CHECKS.test("no clash with itself or across layers", BoundaryRunTest::noClash);
        CHECKS.test("space of the layer", BoundaryRunTest::spaceOfTheLayer);
        CHECKS.test("chosen by numbers of pins", BoundaryRunTest::chosenByNumbers);
        CHECKS.test("a closed pin stands nowhere", BoundaryRunTest::closedPinStandsNowhere);
        CHECKS.test("a closed net stands at what it has", BoundaryRunTest::closedNetStands);
        CHECKS.test("jog and via at their ends", BoundaryRunTest::jogAndViaAtTheirEnds);
        CHECKS.test("tracks of the third layer", BoundaryRunTest::tracksOfTheThirdLayer);
        CHECKS.test("least and greatest sizes", BoundaryRunTest::leastAndGreatestSizes);
        CHECKS.test("free before torn", BoundaryRunTest::freeBeforeTorn);
        CHECKS.test("20 more", BoundaryRunTest::twentyMore);
        CHECKS.test("history paid", BoundaryRunTest::historyPaid);
        CHECKS.test("over chosen places never", BoundaryRunTest::neverOverChosenPlaces);
        CHECKS.test("tears and has no way", BoundaryRunTest::tearsAndHasNoWay);
        CHECKS.test("torn are those it clashes with", BoundaryRunTest::tornAreThoseItClashesWith);
        CHECKS.test("a lost route is out of the way", BoundaryRunTest::lostRouteIsOutOfTheWay);
        CHECKS.test("torn before its turn", BoundaryRunTest::tornBeforeItsTurn);
        CHECKS.test("why", BoundaryRunTest::whys);
        CHECKS.test("a run begins anew", BoundaryRunTest::runBeginsAnew);
        CHECKS.test("all that there can be", BoundaryRunTest::allThatThereCanBe);
        CHECKS.test("512 calls", BoundaryRunTest::fiveHundredAndTwelveCalls);
        CHECKS.end("BoundaryRunTest");
    }

    private static void roundsOutOfRange() {
        TrackRoutes r = Scenes.cross();
        for (int rounds : Beyond.ints(9)) {
            CHECKS.illegalArgument("rounds " + rounds, () -> r.run(rounds));
        }
        CHECKS.illegalState("there was none", () -> r.joined(0));
        CHECKS.illegalArgument("without a net too", () -> new TrackRoutes(1, 1, 1).run(9));
    }

    /** Row and column tear each other up in every round: there are always such. */
    private static void roundsWithinRange() {
        TrackRoutes r = Scenes.plus();
        CHECKS.due("open with no round", r.run(0), 2);
        CHECKS.due("no round", Scenes.counts(r), "2 4 8 0 0 0");
        for (int rounds = 1; rounds <= 8; rounds++) {
            CHECKS.due("open after " + rounds, r.run(rounds), 1);
            CHECKS.due("rounds made", r.count(3), rounds);
            CHECKS.due("torn twice a round, but once in the first", r.count(5), 2 * rounds - 1);
        }
    }

    /**
     * Net 0 goes straight, net 1 has no way but through it; in round 2 net 0 goes by the layer above. So two rounds
     * are enough, and no third one is made.
     */
    private static TrackRoutes twoRounds() {
        TrackRoutes r = new TrackRoutes(2, 9, 3);
        Scenes.netAt(r, 0, 1, 8, 1);
        Scenes.netAt(r, 5, 0, 5, 2);
        r.bar(0, 0, 0, 4, 0);
        r.bar(0, 6, 0, 8, 0);
        r.bar(0, 0, 2, 4, 2);
        r.bar(0, 6, 2, 8, 2);
        r.bar(1, 0, 0, 8, 0);
        r.bar(1, 0, 2, 8, 2);
        return r;
    }

    private static void roundsAsLongAsThereAreSuch() {
        TrackRoutes r = twoRounds();
        CHECKS.due("torn", r.run(1), 1);
        CHECKS.due("why", Scenes.opens(r), "0:3");
        CHECKS.due("two are enough", r.run(2), 0);
        CHECKS.due("counts", Scenes.counts(r), "2 4 34 2 2 1");
        CHECKS.due("by the layer above", Scenes.pieces(r, 0),
            "0,0,1 0,1,1 0,2,1 0,3,1 0,4,1^ 0,6,1^ 0,7,1 0,8,1 1,4,1 1,5,1 1,6,1");
        for (int rounds = 3; rounds <= 8; rounds++) {
            CHECKS.due("joined", r.run(rounds), 0);
            CHECKS.due("no third round of " + rounds, Scenes.counts(r), "2 4 34 2 2 1");
        }
        TrackRoutes one = new TrackRoutes(1, 3, 1);
        Scenes.netAt(one, 0, 0, 2, 0);
        CHECKS.due("one is enough", one.run(8), 0);
        CHECKS.due("no second round", one.count(3), 1);
    }

    private static void noRoundWhenNoneWaits() {
        TrackRoutes none = new TrackRoutes(1, 3, 3);
        CHECKS.due("no net", none.run(8), 0);
        CHECKS.due("no net, no round", none.count(3), 0);
        TrackRoutes closed = new TrackRoutes(1, 3, 3);
        int net = closed.net();
        Scenes.pinAt(closed, net, 0, 0, 0);
        Scenes.pinAt(closed, net, 0, 2, 0);
        closed.pin(net);
        CHECKS.due("all closed", closed.run(8), 1);
        CHECKS.due("all closed, no round", closed.count(3), 0);
        CHECKS.due("closed is not routed", Scenes.pieces(closed, net), "0,0,0 0,2,0");
        TrackRoutes joined = new TrackRoutes(1, 3, 3);
        Scenes.netAt(joined, 1, 1);
        CHECKS.due("all joined", joined.run(8), 0);
        CHECKS.due("all joined, no round", joined.count(3), 0);
    }

    private static void noPinOrOne() {
        TrackRoutes r = new TrackRoutes(1, 3, 3);
        r.net();
        Scenes.netAt(r, 1, 1);
        int noAccess = r.net();
        r.pin(noAccess);
        int barred = Scenes.netAt(r, 0, 0);
        r.bar(0, 0, 0, 0, 0);
        int clashes = Scenes.netAt(r, 1, 1);
        CHECKS.due("three are closed", r.run(0), 3);
        CHECKS.due("no pin", r.joined(0), true);
        CHECKS.due("one pin", r.joined(1), true);
        CHECKS.due("one pin without an access place", r.joined(noAccess), false);
        CHECKS.due("one pin at a barred place", r.joined(barred), false);
        CHECKS.due("one pin that clashes", r.joined(clashes), false);
        CHECKS.due("why", Scenes.opens(r), "2:1 3:1 4:1");
        CHECKS.due("one pin, no step", Scenes.pieces(r, 1), "0,1,1");
    }

    private static void pinsAtOnePlace() {
        TrackRoutes r = new TrackRoutes(1, 1, 1);
        int net = Scenes.netAt(r, 0, 0, 0, 0, 0, 0);
        CHECKS.due("two pins or more wait for a round", r.run(0), 1);
        CHECKS.due("never routed", Scenes.opens(r), "0:3");
        CHECKS.due("all are in the tree at once", r.run(8), 0);
        CHECKS.due("a round, no way", Scenes.counts(r), "1 3 0 1 0 0");
        CHECKS.due("one place", Scenes.pieces(r, net), "0,0,0");
    }

    /** Net 0 stands at (6, 6), net 1 tries dx, dy away: it is closed there if they clash. */
    private static void howFarAClashReaches() {
        for (int space = 0; space <= 2; space++) {
            for (int shields = 0; shields < 4; shields++) {
                int reach = space + (shields == 0 ? 0 : 1);
                for (int[] away : new int[][] {{1, 0}, {0, 1}, {-1, 0}, {0, -1}, {1, 1}, {-1, 1}, {1, -1}, {-1, -1}}) {
                    clashAt(space, shields, reach * away[0], reach * away[1], true);
                    clashAt(space, shields, (reach + 1) * away[0], (reach + 1) * away[1], false);
                }
                clashAt(space, shields, reach, reach + 1, false);
                clashAt(space, shields, -reach - 1, reach, false);
                clashAt(space, shields, 0, 0, true);
            }
        }
    }

    private static void clashAt(int space, int shields, int dx, int dy, boolean due) {
        TrackRoutes r = new TrackRoutes(1, 13, 13);
        r.rule(0, 0, space);
        Scenes.netAt(r, 6, 6);
        Scenes.netAt(r, 6 + dx, 6 + dy);
        if ((shields & 1) != 0) {
            r.shield(0);
        }
        if ((shields & 2) != 0) {
            r.shield(1);
        }
        r.run(0);
        String name = "space " + space + ", shields " + shields + ", " + dx + " and " + dy + " apart";
        CHECKS.due(name, r.chosen(1), due ? TrackRoutes.NONE : 0);
        CHECKS.due(name + ": the first keeps its place", r.chosen(0), 0);
    }

    private static void noClash() {
        TrackRoutes r = new TrackRoutes(2, 3, 3);
        r.rule(0, 0, 2);
        r.rule(0, 1, 2);
        int net = Scenes.netAt(r, 0, 0, 0, 0, 1, 1);
        r.shield(net);
        int above = r.net();
        Scenes.pinAt(r, above, 1, 0, 0);
        r.shield(above);
        CHECKS.due("no net clashes with itself, none with another layer's", r.run(1), 0);
        CHECKS.due("chosen", "" + r.chosen(0) + r.chosen(1) + r.chosen(2) + r.chosen(3), "0000");
    }

    private static void spaceOfTheLayer() {
        for (int layer = 0; layer < 3; layer++) {
            TrackRoutes r = new TrackRoutes(3, 3, 1);
            r.rule(0, layer, 1);
            for (int other = 0; other < 3; other++) {
                Scenes.pinAt(r, r.net(), other, 0, 0);
                Scenes.pinAt(r, r.net(), other, 1, 0);
            }
            CHECKS.due("one clash", r.run(0), 1);
            CHECKS.due("on layer " + layer, Scenes.opens(r), 2 * layer + 1 + ":1");
        }
    }

    private static void chosenByNumbers() {
        TrackRoutes r = new TrackRoutes(1, 4, 1);
        int early = r.net();
        int late = r.net();
        int first = r.pin(late);
        int second = r.pin(early);
        r.access(second, 0, 0, 0);
        r.access(second, 0, 1, 0);
        r.access(first, 0, 0, 0);
        r.access(first, 0, 1, 0);
        r.run(0);
        CHECKS.due("the lesser pin first, not the lesser net or the earlier place",
            r.chosen(first) + " " + r.chosen(second), "0 1");
        TrackRoutes kept = new TrackRoutes(1, 4, 1);
        kept.pin(kept.net());
        kept.pin(kept.net());
        kept.access(0, 0, 0, 0);
        kept.access(0, 0, 1, 0);
        kept.access(1, 0, 0, 0);
        CHECKS.due("a pin before does not make way", kept.run(0), 1);
        CHECKS.due("the later one is closed", kept.chosen(0) + " " + kept.chosen(1), "0 -1");
    }

    /** With a space of 1: pin 1 clashes with pin 0 and is closed; pin 2 would clash with pin 1 alone. */
    private static void closedPinStandsNowhere() {
        TrackRoutes r = new TrackRoutes(1, 5, 1);
        r.rule(0, 0, 1);
        Scenes.netAt(r, 0, 0);
        int closed = Scenes.netAt(r, 1, 0);
        Scenes.netAt(r, 2, 0);
        r.run(0);
        CHECKS.due("chosen", r.chosen(0) + " " + r.chosen(1) + " " + r.chosen(2), "0 -1 0");
        CHECKS.outOfBounds("it stands nowhere", () -> r.piece(closed, 0, 0));
        CHECKS.due("nothing broken", r.broken(0), TrackRoutes.NONE);
    }

    /** Net 0 has a pin at (1, 0) and one without a place: it is closed, and yet nobody comes through. */
    private static void closedNetStands() {
        TrackRoutes r = new TrackRoutes(1, 3, 1);
        int closed = Scenes.netAt(r, 1, 0);
        r.pin(closed);
        int through = Scenes.netAt(r, 0, 0, 2, 0);
        int same = Scenes.netAt(r, 1, 0);
        CHECKS.due("all are open", r.run(8), 3);
        CHECKS.due("why", Scenes.opens(r), "0:1 1:2 2:1");
        CHECKS.due("it stands there", Scenes.pieces(r, closed), "0,1,0");
        CHECKS.due("the other at its pins", Scenes.pieces(r, through), "0,0,0 0,2,0");
        CHECKS.due("the third nowhere", Scenes.pieces(r, same), "");
        CHECKS.due("no history", r.history(0, 1, 0), 0);
    }

    private static final String ACROSS = "0,0,0 0,0,1 0,0,2 0,0,3 0,0,4";
    private static final String BY_VIAS = "0,0,0^ 0,0,4^ 1,0,0 1,0,1 1,0,2 1,0,3 1,0,4";

    /** Four steps across cost 4 and 4 jogs, by vias 4 and 2 vias; of the same cost the lesser y is first. */
    private static void jogAndViaAtTheirEnds() {
        column(0, 1, ACROSS);
        column(1, 1, BY_VIAS);
        column(1, 2, ACROSS);
        column(24, 50, ACROSS);
        column(25, 50, ACROSS);
        column(26, 50, BY_VIAS);
        column(50, 50, BY_VIAS);
        column(50, 1, BY_VIAS);
        column(0, 50, ACROSS);
    }

    private static void column(int jog, int via, String due) {
        TrackRoutes r = new TrackRoutes(2, 1, 5);
        r.rule(1, 0, jog);
        r.rule(2, 0, via);
        int net = Scenes.netAt(r, 0, 0, 0, 4);
        r.run(1);
        CHECKS.due("jog " + jog + ", via " + via, Scenes.pieces(r, net), due);
    }

    private static void tracksOfTheThirdLayer() {
        TrackRoutes r = new TrackRoutes(3, 5, 5);
        int row = r.net();
        Scenes.pinAt(r, row, 2, 0, 0);
        Scenes.pinAt(r, row, 2, 4, 0);
        r.rule(1, 2, 50);
        r.run(1);
        CHECKS.due("along x without a jog", Scenes.pieces(r, row), "2,0,0 2,1,0 2,2,0 2,3,0 2,4,0");
        TrackRoutes across = new TrackRoutes(3, 1, 5);
        int net = across.net();
        Scenes.pinAt(across, net, 2, 0, 0);
        Scenes.pinAt(across, net, 2, 0, 4);
        across.run(1);
        CHECKS.due("16 across, 14 below", Scenes.pieces(across, net),
            "1,0,0^ 1,0,1 1,0,2 1,0,3 1,0,4^ 2,0,0 2,0,4");
        across.rule(2, 1, 6);
        across.run(1);
        CHECKS.due("16 either way", Scenes.pieces(across, net), "2,0,0 2,0,1 2,0,2 2,0,3 2,0,4");
        across.rule(2, 1, 5);
        across.rule(2, 0, 50);
        across.rule(2, 2, 50);
        across.run(1);
        CHECKS.due("the lower layer's via counts alone", Scenes.pieces(across, net),
            "1,0,0^ 1,0,1 1,0,2 1,0,3 1,0,4^ 2,0,0 2,0,4");
    }

    private static void leastAndGreatestSizes() {
        TrackRoutes tower = new TrackRoutes(3, 1, 1);
        int up = tower.net();
        Scenes.pinAt(tower, up, 2, 0, 0);
        Scenes.pinAt(tower, up, 0, 0, 0);
        CHECKS.due("vias alone", tower.run(1), 0);
        CHECKS.due("a via from each but the last", Scenes.pieces(tower, up), "0,0,0^ 1,0,0^ 2,0,0");
        TrackRoutes wide = new TrackRoutes(3, 24, 24);
        int net = wide.net();
        Scenes.pinAt(wide, net, 0, 0, 0);
        Scenes.pinAt(wide, net, 2, 23, 23);
        CHECKS.due("corner to corner", wide.run(1), 0);
        CHECKS.due("first", wide.piece(net, 0, 1) + " " + wide.piece(net, 0, 2), "0 0");
        CHECKS.due("last of 49", wide.piece(net, 48, 0) + " " + wide.piece(net, 48, 1) + " " + wide.piece(net, 48, 2),
            "2 23 23");
        CHECKS.outOfBounds("no 50th", () -> wide.piece(net, 49, 0));
    }

    /** By the layer above the way costs 208, straight through the column 8 and 20: but the first one is free. */
    private static void freeBeforeTorn() {
        TrackRoutes r = new TrackRoutes(2, 9, 3);
        Scenes.netAt(r, 5, 0, 5, 2);
        Scenes.netAt(r, 0, 1, 8, 1);
        r.rule(1, 1, 50);
        r.rule(2, 0, 50);
        r.rule(1, 0, 50);
        r.bar(0, 0, 0, 4, 0);
        r.bar(0, 6, 0, 8, 0);
        r.bar(0, 0, 2, 4, 2);
        r.bar(0, 6, 2, 8, 2);
        r.bar(1, 5, 0, 5, 0);
        r.bar(1, 5, 2, 5, 2);
        CHECKS.due("joined", r.run(1), 0);
        CHECKS.due("nothing torn", Scenes.counts(r), "2 4 18 1 2 0");
        CHECKS.due("by the layer above", Scenes.pieces(r, 1),
            "0,0,1 0,1,1 0,2,1 0,3,1 0,4,1^ 0,6,1^ 0,7,1 0,8,1 1,4,1 1,5,1 1,6,1");
    }

    /**
     * Straight on, net 2 clashes with net 0 at one place and with net 1 at two: 8 and 60. Over net 1 by the layer
     * above it is 8 and 20, three jogs and two vias: less if these are below 40; of the same cost the lesser x is
     * first.
     */
    private static void twentyMore() {
        overOrThrough(1, 18, "0:3");
        overOrThrough(2, 17, "0:3 1:3");
        overOrThrough(1, 19, "0:3 1:3");
    }

    private static void overOrThrough(int jog, int via, String due) {
        TrackRoutes r = new TrackRoutes(2, 9, 3);
        r.rule(1, 1, jog);
        r.rule(2, 0, via);
        Scenes.netAt(r, 2, 0, 2, 2);
        Scenes.netAt(r, 5, 0, 6, 2);
        Scenes.netAt(r, 0, 1, 8, 1);
        r.bar(0, 0, 0, 1, 0);
        r.bar(0, 3, 0, 4, 0);
        r.bar(0, 6, 0, 8, 0);
        r.bar(0, 0, 2, 1, 2);
        r.bar(0, 3, 2, 5, 2);
        r.bar(0, 7, 2, 8, 2);
        r.bar(1, 0, 0, 8, 0);
        r.bar(1, 0, 2, 8, 2);
        r.bar(1, 0, 1, 3, 1);
        r.bar(1, 8, 1, 8, 1);
        r.run(1);
        CHECKS.due("jog " + jog + ", via " + via, Scenes.opens(r), due);
        boolean through = due.length() > 3;
        CHECKS.due("history", r.history(0, 2, 1) + " " + r.history(0, 5, 1) + " " + r.history(0, 6, 1),
            through ? "5 5 5" : "5 0 0");
        CHECKS.due("one way with tearing up", r.count(5), 1);
    }

    /**
     * In round 2 the row tears at (2, 1) too, so that its history is 10: straight on the column pays 8, 20 and 10, by
     * (1, 1) it pays 10 and 20. Without the history straight on would be cheaper again.
     */
    private static void historyPaid() {
        TrackRoutes r = Scenes.cross();
        r.run(1);
        CHECKS.due("straight at first", Scenes.pieces(r, 1), "0,2,0 0,2,1 0,2,2");
        CHECKS.due("5 more", r.history(0, 2, 1), 5);
        r.run(2);
        CHECKS.due("elsewhere then", Scenes.pieces(r, 1), "0,1,0 0,2,0 0,1,1 0,1,2 0,2,2");
        CHECKS.due("once more", r.history(0, 2, 1), 10);
        CHECKS.due("and here once", r.history(0, 1, 1), 5);
        CHECKS.due("not at its ends", r.history(0, 2, 0) + r.history(0, 2, 2), 0);
    }

    /** A pin of one net in the only passage of another: there is no way, torn or not. */
    private static void neverOverChosenPlaces() {
        TrackRoutes r = new TrackRoutes(1, 5, 1);
        Scenes.netAt(r, 2, 0);
        int through = Scenes.netAt(r, 0, 0, 4, 0);
        CHECKS.due("no way", r.run(8), 1);
        CHECKS.due("why", Scenes.opens(r), through + ":2");
        CHECKS.due("no way was found in eight rounds", Scenes.counts(r), "2 3 0 8 0 0");
        TrackRoutes near = new TrackRoutes(1, 5, 2);
        near.rule(0, 0, 1);
        Scenes.netAt(near, 2, 0);
        Scenes.netAt(near, 0, 1, 4, 1);
        CHECKS.due("nor where it clashes with one", near.run(8), 1);
        near.rule(0, 0, 0);
        CHECKS.due("but beside it without a space", near.run(8), 0);
        near.shield(0);
        CHECKS.due("and not beside a shielded one", near.run(8), 1);
    }

    /** A row, and a net of a column through it with a third pin that is walled off. */
    private static TrackRoutes walledOff(boolean rowFirst) {
        TrackRoutes r = new TrackRoutes(1, 7, 3);
        if (rowFirst) {
            Scenes.netAt(r, 0, 1, 4, 1);
        }
        Scenes.netAt(r, 2, 0, 2, 2, 6, 0);
        if (!rowFirst) {
            Scenes.netAt(r, 0, 1, 4, 1);
        }
        r.bar(0, 5, 0, 5, 2);
        r.bar(0, 0, 0, 1, 0);
        r.bar(0, 3, 0, 4, 0);
        r.bar(0, 0, 2, 1, 2);
        r.bar(0, 3, 2, 4, 2);
        return r;
    }

    private static void tearsAndHasNoWay() {
        TrackRoutes r = walledOff(true);
        CHECKS.due("both are open", r.run(1), 2);
        CHECKS.due("the row lost its route, the other had no way", Scenes.opens(r), "0:3 1:2");
        CHECKS.due("its own route is lost", Scenes.pieces(r, 1), "0,2,0 0,6,0 0,2,2");
        CHECKS.due("and the row's", Scenes.pieces(r, 0), "0,0,1 0,4,1");
        CHECKS.due("the ways count", Scenes.counts(r), "2 5 11 1 1 1");
        CHECKS.due("the history stays", r.history(0, 2, 1), 5);
        CHECKS.due("so in each round", r.run(8), 2);
        CHECKS.due("eight times", Scenes.counts(r) + " " + r.history(0, 2, 1), "2 5 11 8 8 8 40");
    }

    private static void tornAreThoseItClashesWith() {
        TrackRoutes r = new TrackRoutes(1, 5, 6);
        int before = Scenes.netAt(r, 0, 4, 4, 4);
        int row = Scenes.netAt(r, 0, 1, 4, 1);
        int column = Scenes.netAt(r, 2, 0, 2, 2);
        int after = Scenes.netAt(r, 0, 5, 4, 5);
        CHECKS.due("one is torn", r.run(1), 1);
        CHECKS.due("the row", Scenes.opens(r), row + ":3");
        CHECKS.due("not a net before", Scenes.pieces(r, before), "0,0,4 0,1,4 0,2,4 0,3,4 0,4,4");
        CHECKS.due("not a net after", Scenes.pieces(r, after), "0,0,5 0,1,5 0,2,5 0,3,5 0,4,5");
        CHECKS.due("the column has its way", Scenes.pieces(r, column), "0,2,0 0,2,1 0,2,2");
    }

    /** The shielded net 0 finds a way along row 2, and none to its third pin: nothing of it is left for net 1. */
    private static void lostRouteIsOutOfTheWay() {
        TrackRoutes r = new TrackRoutes(1, 7, 5);
        int lost = Scenes.netAt(r, 0, 2, 4, 2, 6, 2);
        int column = Scenes.netAt(r, 2, 0, 2, 4);
        r.bar(0, 5, 0, 5, 4);
        r.shield(lost);
        CHECKS.due("one is open", r.run(1), 1);
        CHECKS.due("no way", Scenes.opens(r), lost + ":2");
        CHECKS.due("both ways were free", Scenes.counts(r), "2 5 5 1 2 0");
        CHECKS.due("through where it was", Scenes.pieces(r, column), "0,2,0 0,2,1 0,2,2 0,2,3 0,2,4");
    }

    private static void tornBeforeItsTurn() {
        TrackRoutes r = walledOff(false);
        CHECKS.due("the row comes later, and is joined", r.run(1), 1);
        CHECKS.due("the other had no way", Scenes.opens(r), "0:2");
        CHECKS.due("one way each", Scenes.counts(r), "2 5 11 1 2 0");
        CHECKS.due("torn in round 2, and routed in it", r.run(2), 1);
        CHECKS.due("still no way", Scenes.opens(r), "0:2");
        CHECKS.due("ways", Scenes.counts(r) + " " + r.history(0, 2, 1), "2 5 11 2 3 1 5");
        CHECKS.due("eight rounds", r.run(8), 1);
        CHECKS.due("ways of eight", Scenes.counts(r) + " " + r.history(0, 2, 1), "2 5 11 8 9 7 35");
        CHECKS.due("the row stands", Scenes.pieces(r, 1), "0,0,1 0,1,1 0,2,1 0,3,1 0,4,1");
    }

    private static void whys() {
        TrackRoutes r = walledOff(true);
        int closed = r.net();
        r.pin(closed);
        r.pin(closed);
        r.run(0);
        CHECKS.due("never routed is 3, but closed is 1", Scenes.opens(r), "0:3 1:3 2:1");
        r.run(1);
        CHECKS.due("lost, no way, closed", Scenes.opens(r), "0:3 1:2 2:1");
        TrackRoutes alone = new TrackRoutes(1, 3, 1);
        Scenes.netAt(alone, 0, 0, 2, 0);
        alone.bar(0, 1, 0, 1, 0);
        alone.run(0);
        CHECKS.due("no round, so never routed", Scenes.opens(alone), "0:3");
        alone.run(1);
        CHECKS.due("no way", Scenes.opens(alone), "0:2");
        alone.run(0);
        CHECKS.due("never routed in the latest run", Scenes.opens(alone), "0:3");
    }

    private static void runBeginsAnew() {
        TrackRoutes r = Scenes.cross();
        r.run(8);
        String first = Scenes.told(r);
        r.run(8);
        CHECKS.due("the same again", Scenes.told(r), first);
        CHECKS.due("all waits again", r.run(0), 2);
        CHECKS.due("counts anew", Scenes.counts(r), "2 4 0 0 0 0");
        CHECKS.due("no route", Scenes.pieces(r, 0) + " | " + Scenes.pieces(r, 1), "0,0,1 0,4,1 | 0,2,0 0,2,2");
        CHECKS.due("no history", r.history(0, 2, 1) + r.history(0, 1, 1), 0);
        CHECKS.due("whys anew", Scenes.opens(r), "0:3 1:3");
        r.bar(0, 0, 1, 0, 1);
        r.run(0);
        CHECKS.due("places anew", r.chosen(0), TrackRoutes.NONE);
    }

    /** 16 rows with 40 pins, each with 4 access places, of which the first three are barred. */
    private static void allThatThereCanBe() {
        TrackRoutes r = new TrackRoutes(1, 24, 24);
        for (int net = 0; net < 16; net++) {
            r.net();
        }
        for (int pin = 0; pin < 40; pin++) {
            r.pin(pin % 16);
            for (int k = 0; k < 3; k++) {
                r.access(pin, 0, pin % 24, 20 + k);
            }
            r.access(pin, 0, pin < 16 ? 0 : pin < 32 ? 23 : 12, pin % 16);
        }
        r.bar(0, 0, 20, 23, 22);
        CHECKS.due("none open", r.run(8), 0);
        CHECKS.due("counts", Scenes.counts(r), "16 40 72 1 24 0");
        for (int pin = 0; pin < 40; pin++) {
            CHECKS.due("the fourth place of pin " + pin, r.chosen(pin), 3);
        }
        for (int k = 0; k < 16; k++) {
            int net = k;
            CHECKS.dueCall("last place of net " + net, () -> r.piece(net, 23, 1), 23);
            CHECKS.dueCall("row of net " + net, () -> r.piece(net, 23, 2), net);
            CHECKS.outOfBounds("one beyond of net " + net, () -> r.piece(net, 24, 1));
        }
    }

    private static void fiveHundredAndTwelveCalls() {
        TrackRoutes r = Scenes.cross();
        int made = 10;
        for (; made < 509; made++) {
            r.run(made % 9);
        }
        CHECKS.due("510th", r.run(8), 1);
        CHECKS.due("511th", r.count(3), 8);
        CHECKS.due("512th", r.broken(0), TrackRoutes.NONE);
    }
}
