/** Promises 1 to 7 at their boundaries: each case that a sentence of the document names, by itself. */
public final class BoundaryInputsTest {
    private static final Checks CHECKS = new Checks();

    public static void main(String[] args) {
        CHECKS.test("1 layers", BoundaryInputsTest::promise1Layers);
        CHECKS.test("1 width", BoundaryInputsTest::promise1Width);
        CHECKS.test("1 height", BoundaryInputsTest::promise1Height);
        CHECKS.test("1 all at once", BoundaryInputsTest::promise1AllAtOnce);
        CHECKS.test("1 nothing else", BoundaryInputsTest::promise1NothingElse);
        CHECKS.test("1 objects apart", BoundaryInputsTest::promise1ObjectsApart);
        CHECKS.test("2 ranges", BoundaryInputsTest::promise2Ranges);
        CHECKS.test("2 every layer", BoundaryInputsTest::promise2EveryLayer);
        CHECKS.test("2 as before", BoundaryInputsTest::promise2AsBefore);
        CHECKS.test("2 wrong layer or kind", BoundaryInputsTest::promise2WrongLayerOrKind);
        CHECKS.test("2 first named", BoundaryInputsTest::promise2FirstNamed);
        CHECKS.test("3 as many as there can be", BoundaryInputsTest::promise3AsManyAsThereCanBe);
        CHECKS.test("4 no net", BoundaryInputsTest::promise4NoNet);
        CHECKS.test("4 as many as there can be", BoundaryInputsTest::promise4AsManyAsThereCanBe);
        CHECKS.test("4 all of one net", BoundaryInputsTest::promise4AllOfOneNet);
        CHECKS.test("4 first named", BoundaryInputsTest::promise4FirstNamed);
        CHECKS.test("5 no pin", BoundaryInputsTest::promise5NoPin);
        CHECKS.test("5 ends of the places", BoundaryInputsTest::promise5EndsOfThePlaces);
        CHECKS.test("5 no such place", BoundaryInputsTest::promise5NoSuchPlace);
        CHECKS.test("5 as many as there can be", BoundaryInputsTest::promise5AsManyAsThereCanBe);
        CHECKS.test("5 a place that it has", BoundaryInputsTest::promise5PlaceThatItHas);
        CHECKS.test("5 first named", BoundaryInputsTest::promise5FirstNamed);
        CHECKS.test("6 ends of the places", BoundaryInputsTest::promise6EndsOfThePlaces);
        CHECKS.test("6 just those", BoundaryInputsTest::promise6JustThose);
        CHECKS.test("6 none that were not", BoundaryInputsTest::promise6NoneThatWereNot);
        CHECKS.test("6 wrong numbers", BoundaryInputsTest::promise6WrongNumbers);
        CHECKS.test("6 crossed numbers", BoundaryInputsTest::promise6CrossedNumbers);
        CHECKS.test("6 first named", BoundaryInputsTest::promise6FirstNamed);
        CHECKS.test("7 no net", BoundaryInputsTest::promise7NoNet);
        CHECKS.test("7 on and off", BoundaryInputsTest::promise7OnAndOff);
        CHECKS.test("7 every net", BoundaryInputsTest::promise7EveryNet);
        CHECKS.end("BoundaryInputsTest");
    }

    /** The last place is there, those one beyond it are not, and there are so many on every layer. */
    private static void size(String name, TrackRoutes r, int layers, int width, int height) {
        r.run(0);
        CHECKS.dueCall(name + ": first place", () -> r.history(0, 0, 0), 0);
        CHECKS.dueCall(name + ": last place", () -> r.history(layers - 1, width - 1, height - 1), 0);
        CHECKS.outOfBounds(name + ": one layer more", () -> r.history(layers, 0, 0));
        CHECKS.outOfBounds(name + ": one x more", () -> r.history(0, width, 0));
        CHECKS.outOfBounds(name + ": one y more", () -> r.history(0, 0, height));
        for (int k = 0; k < layers; k++) {
            int layer = k;
            CHECKS.dueCall(name + ": bar all", () -> r.bar(layer, 0, 0, width - 1, height - 1), true);
        }
        CHECKS.dueCall(name + ": so many places", () -> r.count(2), layers * width * height);
    }

    private static void promise1Layers() {
        int[] told = {Integer.MIN_VALUE, -1, 0, 1, 2, 3, 4, Integer.MAX_VALUE};
        int[] due = {1, 1, 1, 1, 2, 3, 3, 3};
        for (int k = 0; k < told.length; k++) {
            size("layers " + told[k], new TrackRoutes(told[k], 5, 7), due[k], 5, 7);
        }
    }

    private static final long[] SIDES = {Long.MIN_VALUE, Integer.MIN_VALUE, 5 - Beyond.WRAP, -1, 0, 1, 2, 23, 24, 25,
        Integer.MAX_VALUE, Beyond.WRAP, Beyond.WRAP + 5, Long.MAX_VALUE};
    private static final int[] SIDES_DUE = {1, 1, 1, 1, 1, 1, 2, 23, 24, 24, 24, 24, 24, 24};

    private static void promise1Width() {
        for (int k = 0; k < SIDES.length; k++) {
            size("width " + SIDES[k], new TrackRoutes(2, SIDES[k], 7), 2, SIDES_DUE[k], 7);
        }
    }

    private static void promise1Height() {
        for (int k = 0; k < SIDES.length; k++) {
            size("height " + SIDES[k], new TrackRoutes(2, 5, SIDES[k]), 2, 5, SIDES_DUE[k]);
        }
    }

    private static void promise1AllAtOnce() {
        size("all least", new TrackRoutes(Integer.MIN_VALUE, Long.MIN_VALUE, Long.MIN_VALUE), 1, 1, 1);
        size("all just below", new TrackRoutes(0, 0, 0), 1, 1, 1);
        size("all just above", new TrackRoutes(4, 25, 25), 3, 24, 24);
        size("all greatest", new TrackRoutes(Integer.MAX_VALUE, Long.MAX_VALUE, Long.MAX_VALUE), 3, 24, 24);
        size("least and greatest", new TrackRoutes(3, Long.MIN_VALUE, Long.MAX_VALUE), 3, 1, 24);
    }

    private static void promise1NothingElse() {
        TrackRoutes r = new TrackRoutes(3, 4, 4);
        CHECKS.due("counts", Scenes.counts(r), "0 0 0 0 0 0");
        CHECKS.illegalState("no run: open", () -> r.open(0, 0));
        CHECKS.illegalState("no run: broken", () -> r.broken(0));
        CHECKS.illegalState("no run: history", () -> r.history(0, 0, 0));
        CHECKS.outOfBounds("no net: pin", () -> r.pin(0));
        CHECKS.outOfBounds("no net: shield", () -> r.shield(0));
        CHECKS.outOfBounds("no net: joined", () -> r.joined(0));
        CHECKS.outOfBounds("no net: piece", () -> r.piece(0, 0, 0));
        CHECKS.outOfBounds("no pin: access", () -> r.access(0, 0, 0, 0));
        CHECKS.outOfBounds("no pin: chosen", () -> r.chosen(0));
        for (int k = 0; k < 3; k++) {
            int layer = k;
            CHECKS.dueCall("space 0 at first", () -> r.rule(0, layer, 0), false);
            CHECKS.dueCall("jog 3 at first", () -> r.rule(1, layer, 3), false);
            CHECKS.dueCall("via 5 at first", () -> r.rule(2, layer, 5), false);
        }
        CHECKS.dueCall("no net is open", () -> r.run(8), 0);
        CHECKS.due("counts with a run of nothing", Scenes.counts(r), "0 0 0 0 0 0");
        CHECKS.dueCall("no open net", () -> r.open(0, 0), TrackRoutes.NONE);
        CHECKS.dueCall("no why", () -> r.open(0, 1), TrackRoutes.NONE);
        CHECKS.dueCall("nothing broken", () -> r.broken(0), TrackRoutes.NONE);
    }

    private static void promise1ObjectsApart() {
        TrackRoutes one = new TrackRoutes(1, 4, 4);
        one.net();
        one.bar(0, 0, 0, 3, 3);
        one.rule(0, 0, 2);
        TrackRoutes other = new TrackRoutes(1, 4, 4);
        CHECKS.due("nothing of another object", Scenes.counts(other), "0 0 0 0 0 0");
        CHECKS.due("no rule of another object", other.rule(0, 0, 2), true);
    }

    private static final int[] LEAST = {0, 0, 1};
    private static final int[] MOST = {2, 50, 50};
    private static final int[] AT_FIRST = {0, 3, 5};

    private static void promise2Ranges() {
        for (int k = 0; k < 3; k++) {
            int kind = k;
            TrackRoutes r = new TrackRoutes(2, 4, 4);
            CHECKS.dueCall("most of kind " + kind, () -> r.rule(kind, 1, MOST[kind]), true);
            CHECKS.dueCall("least of kind " + kind, () -> r.rule(kind, 1, LEAST[kind]), true);
            for (long v : Beyond.longs(LEAST[kind], MOST[kind])) {
                CHECKS.illegalArgument("kind " + kind + ", " + v, () -> r.rule(kind, 1, v));
            }
            CHECKS.dueCall("kept when refused, kind " + kind, () -> r.rule(kind, 1, LEAST[kind]), false);
            for (int v = LEAST[kind] + 1; v <= MOST[kind]; v++) {
                long within = v;
                CHECKS.dueCall("kind " + kind + ", " + v, () -> r.rule(kind, 1, within), true);
            }
        }
    }

    private static void promise2EveryLayer() {
        for (int k = 0; k < 3; k++) {
            int kind = k;
            TrackRoutes r = new TrackRoutes(3, 4, 4);
            for (int l = 0; l < 3; l++) {
                int layer = l;
                CHECKS.dueCall("kind " + kind + " of layer " + layer, () -> r.rule(kind, layer, MOST[kind]), true);
                for (int other = layer + 1; other < 3; other++) {
                    int above = other;
                    CHECKS.dueCall("other layers keep theirs", () -> r.rule(kind, above, AT_FIRST[kind]), false);
                }
                for (int other = 0; other < 3; other++) {
                    int otherKind = other;
                    CHECKS.dueCall("other kinds keep theirs",
                        () -> r.rule(otherKind, layer, otherKind == kind ? MOST[kind] : AT_FIRST[otherKind]), false);
                }
            }
        }
    }

    private static void promise2AsBefore() {
        TrackRoutes r = new TrackRoutes(1, 4, 4);
        CHECKS.due("as at first", r.rule(1, 0, 3), false);
        CHECKS.due("another one", r.rule(1, 0, 4), true);
        CHECKS.due("the same again", r.rule(1, 0, 4), false);
        CHECKS.due("back to the first", r.rule(1, 0, 3), true);
    }

    private static void promise2WrongLayerOrKind() {
        for (int layers = 1; layers <= 3; layers++) {
            TrackRoutes r = new TrackRoutes(layers, 4, 4);
            for (int layer : Beyond.ints(layers)) {
                for (int k = 0; k < 3; k++) {
                    int kind = k;
                    CHECKS.outOfBounds("layer " + layer + " of " + layers, () -> r.rule(kind, layer, 1));
                }
            }
            for (int kind : Beyond.ints(3)) {
                CHECKS.illegalArgument("kind " + kind, () -> r.rule(kind, 0, 1));
            }
        }
    }

    private static void promise2FirstNamed() {
        TrackRoutes r = new TrackRoutes(2, 4, 4);
        CHECKS.outOfBounds("layer and kind", () -> r.rule(3, 2, 1));
        CHECKS.outOfBounds("layer and number", () -> r.rule(0, 2, 3));
        CHECKS.outOfBounds("layer, kind and number", () -> r.rule(-1, -1, -1));
        CHECKS.illegalArgument("kind and number", () -> r.rule(3, 1, 51));
    }

    private static void promise3AsManyAsThereCanBe() {
        TrackRoutes r = new TrackRoutes(1, 4, 4);
        for (int k = 0; k < 16; k++) {
            CHECKS.dueCall("net " + k, r::net, k);
            CHECKS.dueCall("so many", () -> r.count(0), k + 1);
        }
        CHECKS.illegalState("one more", r::net);
        CHECKS.illegalState("and again", r::net);
        CHECKS.dueCall("still 16", () -> r.count(0), 16);
        CHECKS.dueCall("the last is there", () -> r.shield(15), true);
        CHECKS.outOfBounds("there is no other", () -> r.shield(16));
    }

    private static void promise4NoNet() {
        TrackRoutes r = new TrackRoutes(1, 4, 4);
        CHECKS.outOfBounds("no net", () -> r.pin(0));
        r.net();
        r.net();
        for (int net : Beyond.ints(2)) {
            CHECKS.outOfBounds("net " + net, () -> r.pin(net));
        }
        CHECKS.dueCall("none made", () -> r.count(1), 0);
        CHECKS.dueCall("the first number is not used up", () -> r.pin(1), 0);
    }

    private static void promise4AsManyAsThereCanBe() {
        TrackRoutes r = new TrackRoutes(1, 4, 4);
        for (int k = 0; k < 16; k++) {
            r.net();
        }
        for (int k = 0; k < 40; k++) {
            int net = 15 - k % 16;
            CHECKS.dueCall("pin " + k, () -> r.pin(net), k);
            CHECKS.dueCall("so many", () -> r.count(1), k + 1);
        }
        CHECKS.illegalState("one more", () -> r.pin(0));
        CHECKS.illegalState("one more of another net", () -> r.pin(15));
        CHECKS.dueCall("still 40", () -> r.count(1), 40);
        CHECKS.dueCall("the last is there", () -> r.access(39, 0, 0, 0), true);
        CHECKS.outOfBounds("there is no other", () -> r.access(40, 0, 0, 0));
    }

    private static void promise4AllOfOneNet() {
        TrackRoutes r = new TrackRoutes(1, 24, 24);
        int net = r.net();
        for (int k = 0; k < 40; k++) {
            CHECKS.due("pin " + k, r.pin(net), k);
            r.access(k, 0, k % 20, 2 * (k / 20));
        }
        CHECKS.illegalState("one more", () -> r.pin(net));
        CHECKS.due("all are joined", r.run(1), 0);
        CHECKS.due("39 ways", r.count(4), 39);
    }

    private static void promise4FirstNamed() {
        TrackRoutes r = Scenes.full();
        CHECKS.outOfBounds("no such net, and 40 pins", () -> r.pin(16));
        CHECKS.outOfBounds("net below 0, and 40 pins", () -> r.pin(-1));
    }

    private static void promise5NoPin() {
        TrackRoutes r = new TrackRoutes(1, 4, 4);
        CHECKS.outOfBounds("no pin", () -> r.access(0, 0, 0, 0));
        r.net();
        CHECKS.outOfBounds("a net, and no pin", () -> r.access(0, 0, 0, 0));
        r.pin(0);
        r.pin(0);
        for (int pin : Beyond.ints(2)) {
            CHECKS.outOfBounds("pin " + pin, () -> r.access(pin, 0, 0, 0));
        }
        CHECKS.dueCall("last pin", () -> r.access(1, 0, 0, 0), true);
    }

    private static void promise5EndsOfThePlaces() {
        for (int layers = 1; layers <= 3; layers++) {
            for (int side = 1; side <= 24; side += 23) {
                TrackRoutes r = new TrackRoutes(layers, side, 25 - side);
                r.pin(r.net());
                r.pin(0);
                int top = layers - 1;
                int right = side - 1;
                int low = 24 - side;
                CHECKS.dueCall("first place", () -> r.access(0, 0, 0, 0), true);
                CHECKS.dueCall("last place", () -> r.access(1, top, right, low), true);
            }
        }
    }

    private static void promise5NoSuchPlace() {
        TrackRoutes r = new TrackRoutes(2, 5, 3);
        r.pin(r.net());
        for (int layer : Beyond.ints(2)) {
            CHECKS.outOfBounds("layer " + layer, () -> r.access(0, layer, 0, 0));
        }
        for (long x : Beyond.longs(0, 4)) {
            CHECKS.outOfBounds("x " + x, () -> r.access(0, 0, x, 0));
        }
        for (long y : Beyond.longs(0, 2)) {
            CHECKS.outOfBounds("y " + y, () -> r.access(0, 0, 0, y));
        }
        CHECKS.outOfBounds("x within the height alone", () -> r.access(0, 0, 5, 2));
        CHECKS.outOfBounds("y within the width alone", () -> r.access(0, 0, 4, 3));
        r.run(0);
        CHECKS.dueCall("none came", () -> r.chosen(0), TrackRoutes.NONE);
    }

    private static void promise5AsManyAsThereCanBe() {
        TrackRoutes r = new TrackRoutes(1, 6, 1);
        r.pin(r.net());
        r.pin(0);
        for (int k = 0; k < 4; k++) {
            int x = k;
            CHECKS.dueCall("place " + k, () -> r.access(0, 0, x, 0), true);
        }
        CHECKS.illegalState("one more", () -> r.access(0, 0, 4, 0));
        CHECKS.illegalState("the first one again: it has 4", () -> r.access(0, 0, 0, 0));
        CHECKS.illegalState("the last one again: it has 4", () -> r.access(0, 0, 3, 0));
        CHECKS.dueCall("another pin has none yet", () -> r.access(1, 0, 4, 0), true);
        r.bar(0, 0, 0, 2, 0);
        r.run(0);
        CHECKS.dueCall("the fourth counts", () -> r.chosen(0), 3);
        r.bar(0, 3, 0, 3, 0);
        r.run(0);
        CHECKS.dueCall("a fifth did not come", () -> r.chosen(0), TrackRoutes.NONE);
    }

    private static void promise5PlaceThatItHas() {
        TrackRoutes r = new TrackRoutes(2, 5, 3);
        r.pin(r.net());
        r.pin(0);
        for (int k = 0; k < 3; k++) {
            int x = k;
            CHECKS.dueCall("new", () -> r.access(0, 1, x, 2), true);
            for (int old = 0; old <= k; old++) {
                int again = old;
                CHECKS.dueCall("again", () -> r.access(0, 1, again, 2), false);
            }
        }
        CHECKS.dueCall("other layer", () -> r.access(0, 0, 0, 2), true);
        CHECKS.dueCall("another pin's place", () -> r.access(1, 1, 0, 2), true);
        r.bar(1, 0, 0, 4, 2);
        CHECKS.dueCall("a barred place may be one", () -> r.access(1, 1, 4, 2), true);
        r.run(0);
        CHECKS.dueCall("again took no number", () -> r.chosen(0), 3);
    }

    private static void promise5FirstNamed() {
        TrackRoutes r = Scenes.full();
        CHECKS.outOfBounds("layer, and it has 4", () -> r.access(39, 2, 0, 0));
        CHECKS.outOfBounds("x, and it has 4", () -> r.access(39, 0, 5, 0));
        CHECKS.outOfBounds("y, and it has 4", () -> r.access(39, 0, 0, 3));
        CHECKS.outOfBounds("pin and place", () -> r.access(40, 2, 5, 3));
        CHECKS.illegalState("it has 4", () -> r.access(39, 0, 4, 0));
    }

    private static void promise6EndsOfThePlaces() {
        TrackRoutes r = new TrackRoutes(3, 24, 24);
        CHECKS.dueCall("first place", () -> r.bar(0, 0, 0, 0, 0), true);
        CHECKS.dueCall("last place", () -> r.bar(2, 23, 23, 23, 23), true);
        CHECKS.dueCall("each counts", () -> r.count(2), 2);
        for (int k = 0; k < 3; k++) {
            int layer = k;
            CHECKS.dueCall("all of a layer", () -> r.bar(layer, 0, 0, 23, 23), true);
        }
        CHECKS.dueCall("as many as there can be", () -> r.count(2), 1728);
        CHECKS.dueCall("and no more", () -> r.bar(1, 0, 0, 23, 23), false);
        TrackRoutes small = new TrackRoutes(1, 1, 1);
        CHECKS.dueCall("the only place", () -> small.bar(0, 0, 0, 0, 0), true);
        CHECKS.dueCall("again", () -> small.bar(0, 0, 0, 0, 0), false);
        CHECKS.dueCall("one", () -> small.count(2), 1);
    }

    /** Which places a bar has taken is seen by which access places can be chosen. */
    private static void promise6JustThose() {
        for (int place = 0; place < 40; place++) {
            int x = place % 5;
            int y = place / 5 % 4;
            int layer = place / 20;
            TrackRoutes r = new TrackRoutes(2, 5, 4);
            r.access(r.pin(r.net()), layer, x, y);
            r.bar(1, 1, 2, 3, 3);
            r.run(0);
            boolean within = layer == 1 && x >= 1 && x <= 3 && y >= 2;
            CHECKS.due("barred at " + layer + ", " + x + ", " + y, r.chosen(0), within ? TrackRoutes.NONE : 0);
            CHECKS.due("six places", r.count(2), 6);
        }
    }

    private static void promise6NoneThatWereNot() {
        TrackRoutes r = new TrackRoutes(2, 5, 3);
        CHECKS.due("new ones", r.bar(0, 1, 1, 2, 1), true);
        CHECKS.due("the same", r.bar(0, 1, 1, 2, 1), false);
        CHECKS.due("a part of them", r.bar(0, 2, 1, 2, 1), false);
        CHECKS.due("two", r.count(2), 2);
        CHECKS.due("one that was not, the last", r.bar(0, 1, 1, 3, 1), true);
        CHECKS.due("three", r.count(2), 3);
        CHECKS.due("one that was not, the first", r.bar(0, 0, 1, 3, 1), true);
        CHECKS.due("four", r.count(2), 4);
        CHECKS.due("the same on another layer", r.bar(1, 0, 1, 3, 1), true);
        CHECKS.due("eight", r.count(2), 8);
    }

    private static void promise6WrongNumbers() {
        TrackRoutes r = new TrackRoutes(2, 5, 3);
        for (int layer : Beyond.ints(2)) {
            CHECKS.outOfBounds("layer " + layer, () -> r.bar(layer, 0, 0, 0, 0));
        }
        for (long x : Beyond.longs(0, 4)) {
            CHECKS.illegalArgument("x0 " + x, () -> r.bar(0, x, 0, 4, 0));
            CHECKS.illegalArgument("x1 " + x, () -> r.bar(0, 0, 0, x, 0));
            CHECKS.illegalArgument("both x " + x, () -> r.bar(0, x, 0, x, 0));
        }
        for (long y : Beyond.longs(0, 2)) {
            CHECKS.illegalArgument("y0 " + y, () -> r.bar(0, 0, y, 0, 2));
            CHECKS.illegalArgument("y1 " + y, () -> r.bar(0, 0, 0, 0, y));
            CHECKS.illegalArgument("both y " + y, () -> r.bar(0, 0, y, 0, y));
        }
        CHECKS.illegalArgument("x1 within the height alone", () -> new TrackRoutes(1, 3, 5).bar(0, 0, 0, 3, 0));
        CHECKS.illegalArgument("y1 within the width alone", () -> r.bar(0, 0, 0, 0, 3));
        CHECKS.due("none barred", r.count(2), 0);
    }

    private static void promise6CrossedNumbers() {
        TrackRoutes r = new TrackRoutes(1, 5, 3);
        CHECKS.illegalArgument("x0 one above x1", () -> r.bar(0, 3, 0, 2, 2));
        CHECKS.illegalArgument("x0 far above x1", () -> r.bar(0, 4, 0, 0, 2));
        CHECKS.illegalArgument("y0 one above y1", () -> r.bar(0, 0, 2, 4, 1));
        CHECKS.illegalArgument("y0 far above y1", () -> r.bar(0, 0, 2, 4, 0));
        CHECKS.illegalArgument("both above", () -> r.bar(0, 4, 2, 0, 0));
        CHECKS.due("none barred", r.count(2), 0);
        CHECKS.due("x0 as x1", r.bar(0, 3, 0, 3, 2), true);
        CHECKS.due("three", r.count(2), 3);
        CHECKS.due("y0 as y1", r.bar(0, 0, 2, 4, 2), true);
        CHECKS.due("seven", r.count(2), 7);
    }

    private static void promise6FirstNamed() {
        TrackRoutes r = new TrackRoutes(2, 5, 3);
        CHECKS.outOfBounds("layer and x", () -> r.bar(2, -1, 0, 0, 0));
        CHECKS.outOfBounds("layer and y", () -> r.bar(-1, 0, 0, 0, 3));
        CHECKS.outOfBounds("layer and crossed", () -> r.bar(2, 1, 1, 0, 0));
    }

    private static void promise7NoNet() {
        TrackRoutes r = new TrackRoutes(1, 4, 4);
        CHECKS.outOfBounds("no net", () -> r.shield(0));
        r.net();
        r.net();
        for (int net : Beyond.ints(2)) {
            CHECKS.outOfBounds("net " + net, () -> r.shield(net));
        }
        CHECKS.due("the first was not", r.shield(0), true);
        CHECKS.due("the last was not", r.shield(1), true);
    }

    private static void promise7OnAndOff() {
        TrackRoutes r = new TrackRoutes(1, 2, 1);
        Scenes.netAt(r, 0, 0);
        Scenes.netAt(r, 1, 0);
        for (int turn = 0; turn < 3; turn++) {
            CHECKS.due("side by side", r.run(0), 0);
            CHECKS.due("is now", r.shield(1), true);
            CHECKS.due("one is closed", r.run(0), 1);
            CHECKS.due("is not any more", r.shield(1), false);
        }
    }

    private static void promise7EveryNet() {
        TrackRoutes r = new TrackRoutes(1, 4, 4);
        for (int net = 0; net < 16; net++) {
            r.net();
        }
        for (int net = 15; net >= 0; net--) {
            CHECKS.due("on " + net, r.shield(net), true);
        }
        for (int net = 0; net < 16; net += 2) {
            CHECKS.due("off " + net, r.shield(net), false);
        }
        for (int net = 0; net < 16; net++) {
            CHECKS.due("each by itself " + net, r.shield(net), net % 2 == 0);
        }
    }
}
