/**
 * The sentences of 'What it is' and 'Terms' in their order, each by a case worked out by hand that comes out otherwise
 * if the sentence does not hold. The name of a case is the sentence's own words.
 */
public final class TermsTest {
    private static final Checks CHECKS = new Checks();

    public static void main(String[] args) {
        places();
        terms();
        CHECKS.end("TermsTest");
    }

    private static void places() {
        CHECKS.test("layers 0 .. layers - 1, x 0 .. width - 1, y 0 .. height - 1", TermsTest::threeNumbers);
        CHECKS.test("in their ORDER by layer, then y, then x", TermsTest::order);
    }

    private static void terms() {
        CHECKS.test("Some are BARRED", TermsTest::barred);
        CHECKS.test("STEPS lead .. beside it in x or in y", TermsTest::stepsBeside);
        CHECKS.test("(VIAS) to that with the same x and y on the layer below or above", TermsTest::vias);
        CHECKS.test("A step along x on layers 0, 2, .., along y on others costs 1", TermsTest::alongCosts);
        CHECKS.test("across 1 and the layer's JOG (3 at first)", TermsTest::acrossCosts);
        CHECKS.test("a via costs the VIA of the lower layer (5 at first)", TermsTest::viaCosts);
        CHECKS.test("NETS 0 .. 15 STAND at places", TermsTest::sixteenNets);
        CHECKS.test("Two nets CLASH .. no more than S apart in x, and in y", TermsTest::clash);
        CHECKS.test("one of each", TermsTest::oneOfEach);
        CHECKS.test("one more if one of both is SHIELDED", TermsTest::shielded);
        CHECKS.test("PINS 0 .. 39 are of a net, each with up to 4 ACCESS places", TermsTest::fortyPins);
        CHECKS.test("in the order in which they came", TermsTest::accessOrder);
        CHECKS.test("The CHOSEN one of a pin, pins by numbers", TermsTest::chosenByNumbers);
        CHECKS.test("no chosen one of a pin before of another net", TermsTest::chosenOfAnotherNet);
        CHECKS.test("without one the pin is CLOSED, and so is its net", TermsTest::closed);
    }

    private static void threeNumbers() {
        TrackRoutes r = new TrackRoutes(2, 3, 4);
        int there = 0;
        for (int layer = -1; layer <= 2; layer++) {
            for (int x = -1; x <= 3; x++) {
                for (int y = -1; y <= 4; y++) {
                    boolean within = layer >= 0 && layer < 2 && x >= 0 && x < 3 && y >= 0 && y < 4;
                    int l = layer;
                    long px = x;
                    long py = y;
                    Object answer = Checks.answer(() -> r.history(l, px, py));
                    CHECKS.due("is there " + l + " " + px + " " + py, answer,
                        within ? "throws.IllegalStateException" : "throws.IndexOutOfBoundsException");
                    there += within ? 1 : 0;
                }
            }
        }
        CHECKS.due("places", there, 24);
    }

    private static void order() {
        TrackRoutes r = new TrackRoutes(3, 2, 2);
        int net = Scenes.netOn(r, 2, 0, 0, 1, 1, 1, 1, 0, 1, 1, 1, 0, 0, 0, 1, 0, 1, 0);
        r.run(0);
        CHECKS.due("order", Scenes.pieces(r, net), "0,1,0 0,0,1 1,1,0 1,0,1 1,1,1 2,0,0");
    }

    private static void barred() {
        TrackRoutes r = new TrackRoutes(1, 3, 1);
        Scenes.netAt(r, 0, 0, 2, 0);
        CHECKS.due("none is at first", r.run(1), 0);
        r.bar(0, 1, 0, 1, 0);
        CHECKS.due("no way over one that is", r.run(1), 1);
        TrackRoutes back = new TrackRoutes(1, 3, 1);
        Scenes.netAt(back, 2, 0, 0, 0);
        back.bar(0, 1, 0, 1, 0);
        CHECKS.due("nor to the first place of all", back.run(1), 1);
    }

    private static void noWay(String what, TrackRoutes r, int... bars) {
        Scenes.barAll(r, bars);
        CHECKS.due(what, r.run(1), 1);
    }

    private static void stepsBeside() {
        int[][] beside = {{0, 1}, {2, 1}, {1, 0}, {1, 2}};
        for (int[] place : beside) {
            TrackRoutes r = new TrackRoutes(1, 3, 3);
            Scenes.netAt(r, 1, 1, place[0], place[1]);
            CHECKS.due("one step", r.run(1), 0);
            CHECKS.outOfBounds("from the one place to the other", () -> r.piece(0, 2, 0));
        }
        TrackRoutes corner = new TrackRoutes(1, 2, 2);
        Scenes.netAt(corner, 0, 0, 1, 1);
        noWay("not to a corner", corner, 0, 1, 0, 0, 0, 1);
        TrackRoutes other = new TrackRoutes(1, 2, 2);
        Scenes.netAt(other, 1, 0, 0, 1);
        noWay("not to the other corner", other, 0, 0, 0, 0, 1, 1);
        TrackRoutes rim = new TrackRoutes(1, 3, 2);
        Scenes.netAt(rim, 2, 0, 0, 1);
        noWay("not from the end of a row to the next one", rim, 0, 1, 0, 0, 1, 1);
        TrackRoutes round = new TrackRoutes(1, 3, 3);
        Scenes.netAt(round, 0, 0, 2, 0, 0, 2);
        noWay("not round from end to end", round, 0, 1, 0, 0, 1, 1, 0, 0, 1);
        TrackRoutes far = new TrackRoutes(1, 3, 1);
        Scenes.netAt(far, 0, 0, 2, 0);
        noWay("not over a place", far, 0, 1, 0);
    }

    private static void vias() {
        TrackRoutes r = new TrackRoutes(3, 1, 1);
        int net = Scenes.netOn(r, 1, 0, 0, 0, 0, 0, 2, 0, 0);
        Scenes.dueRoute(CHECKS, "below and above", r, net, "0,0,0^ 1,0,0^ 2,0,0");
        TrackRoutes through = new TrackRoutes(3, 1, 1);
        Scenes.netOn(through, 0, 0, 0, 2, 0, 0);
        noWay("not two layers on", through, 1, 0, 0);
        TrackRoutes aside = new TrackRoutes(2, 2, 1);
        Scenes.netOn(aside, 0, 0, 0, 1, 1, 0);
        noWay("not to another x", aside, 0, 1, 0, 1, 0, 0);
        TrackRoutes down = new TrackRoutes(2, 1, 2);
        Scenes.netOn(down, 0, 0, 1, 1, 0, 0);
        noWay("not to another y", down, 0, 0, 0, 1, 0, 1);
    }

    /** Straight on a layer with jogs of 50, and not by a layer beside it, where it would cost more. */
    private static void alongCosts() {
        for (int layer = 0; layer < 3; layer++) {
            boolean alongX = layer != 1;
            TrackRoutes r = new TrackRoutes(3, alongX ? 9 : 1, alongX ? 1 : 9);
            for (int each = 0; each < 3; each++) {
                r.rule(1, each, each == layer ? 50 : 0);
                r.rule(2, each, 1);
            }
            int end = 8;
            int net = Scenes.netOn(r, layer, 0, 0, layer, alongX ? end : 0, alongX ? 0 : end);
            r.run(1);
            CHECKS.due("9 places of layer " + layer, r.piece(net, 8, 0), layer);
            CHECKS.outOfBounds("and no other", () -> r.piece(net, 9, 0));
            CHECKS.due("all of them", r.piece(net, 0, 0), layer);
        }
    }

    /**
     * Over one place: two steps across on the layer, or two vias and two steps along on the layer beside it. Vias are
     * 3 and 3, so that with 3 jogs at first both cost 8, and the step back across comes before the via.
     */
    private static void acrossCosts() {
        for (int layer = 0; layer < 2; layer++) {
            boolean acrossY = layer == 0;
            TrackRoutes r = new TrackRoutes(2, acrossY ? 1 : 3, acrossY ? 3 : 1);
            r.rule(2, 0, 3);
            int net = Scenes.netOn(r, layer, 0, 0, layer, acrossY ? 0 : 2, acrossY ? 2 : 0);
            r.run(1);
            CHECKS.outOfBounds("a jog of 3 at first, 1 and 3 twice", () -> r.piece(net, 3, 0));
            r.rule(1, layer, 4);
            r.run(1);
            CHECKS.due("a jog of 4 on layer " + layer, r.piece(net, 4, 0), 1);
            r.rule(1, layer, 3);
            r.rule(1, 1 - layer, 0);
            r.run(1);
            CHECKS.outOfBounds("not the other layer's jog", () -> r.piece(net, 3, 0));
        }
    }

    /** From layer 0 to 1 and from 1 to 2, each by a column of 3 across for 3 and 3 jogs, or by vias of 5 each. */
    private static void viaCosts() {
        for (int lower = 0; lower < 2; lower++) {
            TrackRoutes r = new TrackRoutes(3, lower == 0 ? 1 : 4, lower == 0 ? 4 : 1);
            int[] end = {lower, lower == 0 ? 0 : 3, lower == 0 ? 3 : 0};
            int net = Scenes.netOn(r, lower, 0, 0, end[0], end[1], end[2]);
            r.bar(lower == 0 ? 2 : 0, 0, 0, end[1], end[2]);
            r.run(1);
            CHECKS.outOfBounds("3 and 9 across, 3 and 10 by vias", () -> r.piece(net, 4, 0));
            r.rule(1, lower, 4);
            r.rule(2, 2 - lower, 1);
            r.run(1);
            CHECKS.due("3 and 12 across, 3 and 10 by vias", r.piece(net, 5, 0), lower + 1);
            r.rule(2, lower, 7);
            r.run(1);
            CHECKS.outOfBounds("3 and 14 by vias", () -> r.piece(net, 4, 0));
            r.rule(2, lower, 6);
            r.rule(2, lower + 1, 1);
            r.run(1);
            CHECKS.outOfBounds("3 and 12 by vias, the same as across", () -> r.piece(net, 4, 0));
            r.rule(2, lower, 5);
            r.rule(2, lower + 1, 50);
            r.run(1);
            CHECKS.due("the upper layer's does not count", r.piece(net, 5, 0), lower + 1);
        }
    }

    private static void sixteenNets() {
        TrackRoutes r = new TrackRoutes(1, 16, 1);
        for (int net = 0; net < 16; net++) {
            CHECKS.due("net", Scenes.netAt(r, net, 0), net);
        }
        CHECKS.illegalState("no 17th", r::net);
        r.run(0);
        for (int net = 0; net < 16; net++) {
            CHECKS.due("stands", Scenes.pieces(r, net), "0," + net + ",0");
        }
    }

    /** Pins of three nets in turn, each on the row of its net. */
    private static void fortyPins() {
        TrackRoutes r = new TrackRoutes(1, 17, 3);
        r.net();
        r.net();
        r.net();
        for (int pin = 0; pin < 40; pin++) {
            CHECKS.due("pin", r.pin(pin % 3), pin);
            for (int k = 0; k < 4; k++) {
                CHECKS.due("place " + k, r.access(pin, 0, pin / 3 + k, pin % 3), true);
            }
        }
        CHECKS.illegalState("no 41st", () -> r.pin(0));
        CHECKS.illegalState("no fifth place", () -> r.access(39, 0, 0, 0));
        r.run(0);
        for (int net = 0; net < 3; net++) {
            StringBuilder due = new StringBuilder();
            for (int pin = net; pin < 40; pin += 3) {
                due.append(due.length() == 0 ? "" : " ").append("0,").append(pin / 3).append(',').append(net);
            }
            CHECKS.due("pins of net " + net, Scenes.pieces(r, net), due.toString());
        }
    }

    /** A pin at (3, 3), and another net's at every place, one after another. */
    private static void clash() {
        for (int space = 0; space <= 2; space++) {
            for (int place = 0; place < 49; place++) {
                TrackRoutes r = new TrackRoutes(1, 7, 7);
                r.rule(0, 0, space);
                Scenes.netAt(r, 3, 3);
                Scenes.netAt(r, place % 7, place / 7);
                boolean due = Math.abs(place % 7 - 3) <= space && Math.abs(place / 7 - 3) <= space;
                CHECKS.due("space " + space + " at " + place, r.run(0), due ? 1 : 0);
            }
        }
        TrackRoutes layers = new TrackRoutes(2, 1, 1);
        layers.rule(0, 0, 2);
        layers.rule(0, 1, 2);
        Scenes.netOn(layers, 0, 0, 0);
        Scenes.netOn(layers, 1, 0, 0);
        CHECKS.due("of a layer", layers.run(0), 0);
    }

    private static void oneOfEach() {
        TrackRoutes r = new TrackRoutes(1, 3, 1);
        r.rule(0, 0, 2);
        Scenes.netAt(r, 0, 0, 1, 0, 2, 0, 0, 0);
        CHECKS.due("a net does not clash with itself", r.run(1), 0);
    }

    private static void shielded() {
        for (int shields = 0; shields < 8; shields++) {
            TrackRoutes r = new TrackRoutes(1, 9, 1);
            r.rule(0, 0, 1);
            Scenes.netAt(r, 2, 0);
            Scenes.netAt(r, 4, 0);
            Scenes.netAt(r, 8, 0);
            for (int net = 0; net < 3; net++) {
                if ((shields >> net & 1) != 0) {
                    r.shield(net);
                }
            }
            CHECKS.due("two apart, shields " + shields, r.run(0), (shields & 3) == 0 ? 0 : 1);
        }
        TrackRoutes three = new TrackRoutes(1, 4, 1);
        three.rule(0, 0, 1);
        Scenes.netAt(three, 0, 0);
        Scenes.netAt(three, 3, 0);
        three.shield(0);
        three.shield(1);
        CHECKS.due("one more, not two, if both are", three.run(0), 0);
    }

    private static void accessOrder() {
        TrackRoutes r = new TrackRoutes(1, 4, 1);
        r.pin(r.net());
        r.access(0, 0, 2, 0);
        r.access(0, 0, 0, 0);
        r.access(0, 0, 3, 0);
        r.access(0, 0, 1, 0);
        int[] came = {2, 0, 3, 1};
        for (int k = 0; k < 4; k++) {
            r.run(0);
            CHECKS.due("chosen", r.chosen(0) + " at " + r.piece(0, 0, 1), k + " at " + came[k]);
            r.bar(0, came[k], 0, came[k], 0);
        }
    }

    private static void chosenByNumbers() {
        TrackRoutes r = new TrackRoutes(1, 2, 1);
        r.net();
        r.net();
        r.pin(1);
        r.pin(0);
        r.access(1, 0, 0, 0);
        r.access(1, 0, 1, 0);
        r.access(0, 0, 0, 0);
        r.access(0, 0, 1, 0);
        r.run(0);
        CHECKS.due("pin 0 of net 1, then pin 1 of net 0", r.chosen(0) + " " + r.chosen(1), "0 1");
    }

    /** Pin 1 may have its net's own place, pin 2 not; pin 3 may have what pin 2 could have, but did not choose. */
    private static void chosenOfAnotherNet() {
        TrackRoutes r = new TrackRoutes(1, 3, 1);
        r.net();
        r.net();
        r.net();
        r.access(r.pin(0), 0, 0, 0);
        r.access(r.pin(0), 0, 0, 0);
        int third = r.pin(1);
        r.access(third, 0, 0, 0);
        r.access(third, 0, 1, 0);
        r.access(third, 0, 2, 0);
        int fourth = r.pin(2);
        r.access(fourth, 0, 2, 0);
        CHECKS.due("two pins wait for a round", r.run(0), 1);
        CHECKS.due("chosen", "" + r.chosen(0) + r.chosen(1) + r.chosen(2) + r.chosen(3), "0010");
    }

    private static void closed() {
        TrackRoutes r = new TrackRoutes(1, 4, 1);
        int net = Scenes.netAt(r, 0, 0, 2, 0);
        Scenes.netAt(r, 2, 0);
        r.bar(0, 0, 0, 0, 0);
        r.run(1);
        CHECKS.due("a pin, and not the other", r.chosen(0) + " " + r.chosen(1), "-1 0");
        CHECKS.due("its net, and the net of one that clashes", Scenes.opens(r), net + ":1 1:1");
    }
}
