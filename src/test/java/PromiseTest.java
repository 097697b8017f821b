/** Each promise of the document by cases worked out by hand: ordinary inputs, edges and wrong inputs. */
public final class PromiseTest {
    private static final Checks CHECKS = new Checks();

    public static void main(String[] args) {
        promise1NewObject();
        promise2Rule();
        promise3Net();
        promise4Pin();
        promise5Access();
        promise6Bar();
        promise7Shield();
        promise8RunWays();
        promise8RunRules();
        promise8RunTies();
        promise8RunTearing();
        promise8RunHistoryCosts();
        promise8RunRounds();
        promise9Piece();
        promise9Vias();
        promise10Chosen();
        promise11Open();
        promise12Joined();
        promise13Broken();
        promise14History();
        promise15Count();
        changesEndARun();
        CHECKS.end("PromiseTest");
    }

    private static void size(TrackRoutes r, String name, int layers, int width, int height) {
        r.run(0);
        CHECKS.dueCall(name + " last place", () -> r.history(layers - 1, width - 1, height - 1), 0);
        CHECKS.outOfBounds(name + " layers", () -> r.history(layers, 0, 0));
        CHECKS.outOfBounds(name + " width", () -> r.history(0, width, 0));
        CHECKS.outOfBounds(name + " height", () -> r.history(0, 0, height));
    }

    private static void promise1NewObject() {
        size(new TrackRoutes(2, 5, 7), "2 5 7", 2, 5, 7);
        size(new TrackRoutes(1, 1, 24), "1 1 24", 1, 1, 24);
        size(new TrackRoutes(0, 0, 25), "0 0 25", 1, 1, 24);
        size(new TrackRoutes(4, 25, 0), "4 25 0", 3, 24, 1);
        size(new TrackRoutes(Integer.MIN_VALUE, Long.MIN_VALUE, Long.MAX_VALUE), "least", 1, 1, 24);
        size(new TrackRoutes(Integer.MAX_VALUE, 1L << 32, -1L << 32), "most", 3, 24, 1);
        TrackRoutes r = new TrackRoutes(3, 4, 4);
        CHECKS.due("nothing else", Scenes.counts(r), "0 0 0 0 0 0");
        CHECKS.outOfBounds("no net", () -> r.shield(0));
        CHECKS.outOfBounds("no pin", () -> r.access(0, 0, 0, 0));
        CHECKS.illegalState("no run", () -> r.broken(0));
        CHECKS.due("run of nothing", r.run(8), 0);
        CHECKS.due("no round of nothing", Scenes.counts(r), "0 0 0 0 0 0");
    }

    private static void promise2Rule() {
        TrackRoutes r = new TrackRoutes(2, 4, 4);
        for (int layer = 0; layer < 2; layer++) {
            CHECKS.due("space at first", r.rule(0, layer, 0), false);
            CHECKS.due("jog at first", r.rule(1, layer, 3), false);
            CHECKS.due("via at first", r.rule(2, layer, 5), false);
        }
        int[] most = {2, 50, 50};
        int[] least = {0, 0, 1};
        for (int k = 0; k < 3; k++) {
            int kind = k;
            CHECKS.due("most of " + kind, r.rule(kind, 1, most[kind]), true);
            CHECKS.due("most again of " + kind, r.rule(kind, 1, most[kind]), false);
            CHECKS.due("least of " + kind, r.rule(kind, 1, least[kind]), true);
            CHECKS.illegalArgument("above most of " + kind, () -> r.rule(kind, 1, most[kind] + 1));
            CHECKS.illegalArgument("below least of " + kind, () -> r.rule(kind, 1, least[kind] - 1));
            CHECKS.illegalArgument("wrapped of " + kind, () -> r.rule(kind, 1, (1L << 32) + 2));
            CHECKS.illegalArgument("greatest of " + kind, () -> r.rule(kind, 1, Long.MAX_VALUE));
            CHECKS.illegalArgument("lowest of " + kind, () -> r.rule(kind, 1, Long.MIN_VALUE));
            CHECKS.due("unchanged of " + kind, r.rule(kind, 1, least[kind]), false);
        }
        CHECKS.due("other layers keep theirs", r.rule(1, 0, 3), false);
        CHECKS.illegalArgument("kind 3", () -> r.rule(3, 0, 1));
        CHECKS.illegalArgument("kind -1", () -> r.rule(-1, 0, 1));
        CHECKS.outOfBounds("layer 2", () -> r.rule(0, 2, 1));
        CHECKS.outOfBounds("layer -1", () -> r.rule(0, -1, 1));
        CHECKS.outOfBounds("layer before kind", () -> r.rule(9, 2, 1));
        CHECKS.outOfBounds("layer before number", () -> r.rule(0, 2, 99));
    }

    private static void promise3Net() {
        TrackRoutes r = new TrackRoutes(1, 4, 4);
        for (int k = 0; k < 16; k++) {
            CHECKS.due("net " + k, r.net(), k);
        }
        CHECKS.illegalState("17th net", r::net);
        CHECKS.due("still 16", r.count(0), 16);
    }

    private static void promise4Pin() {
        TrackRoutes r = new TrackRoutes(1, 4, 4);
        CHECKS.outOfBounds("no net yet", () -> r.pin(0));
        r.net();
        r.net();
        for (int k = 0; k < 40; k++) {
            CHECKS.due("pin " + k, r.pin(k % 2), k);
        }
        CHECKS.illegalState("41st pin", () -> r.pin(1));
        CHECKS.outOfBounds("net before number", () -> r.pin(2));
        CHECKS.outOfBounds("net below 0", () -> r.pin(-1));
        CHECKS.due("still 40", r.count(1), 40);
    }

    private static void promise5Access() {
        TrackRoutes r = new TrackRoutes(2, 5, 3);
        int net = r.net();
        int pin = r.pin(net);
        CHECKS.due("first", r.access(pin, 0, 0, 0), true);
        CHECKS.due("again", r.access(pin, 0, 0, 0), false);
        CHECKS.due("other layer", r.access(pin, 1, 0, 0), true);
        CHECKS.due("last place", r.access(pin, 1, 4, 2), true);
        CHECKS.due("again with three", r.access(pin, 1, 4, 2), false);
        CHECKS.due("fourth", r.access(pin, 0, 1, 0), true);
        CHECKS.illegalState("fifth", () -> r.access(pin, 0, 2, 0));
        CHECKS.illegalState("it has 4, one of its own too", () -> r.access(pin, 0, 1, 0));
        CHECKS.outOfBounds("pin", () -> r.access(1, 0, 0, 0));
        CHECKS.outOfBounds("pin below 0", () -> r.access(-1, 0, 0, 0));
        CHECKS.outOfBounds("layer before state", () -> r.access(pin, 2, 0, 0));
        CHECKS.outOfBounds("x before state", () -> r.access(pin, 0, 5, 0));
        CHECKS.outOfBounds("y before state", () -> r.access(pin, 0, 0, 3));
        int second = r.pin(net);
        CHECKS.outOfBounds("layer below 0", () -> r.access(second, -1, 0, 0));
        CHECKS.outOfBounds("x below 0", () -> r.access(second, 0, -1, 0));
        CHECKS.outOfBounds("y below 0", () -> r.access(second, 0, 0, -1));
        CHECKS.outOfBounds("x wrapped", () -> r.access(second, 0, 1L << 32, 0));
        CHECKS.outOfBounds("y wrapped", () -> r.access(second, 0, 0, 1L << 32));
        CHECKS.due("one pin's place for another", r.access(second, 0, 0, 0), true);
    }

    private static void promise6Bar() {
        TrackRoutes r = new TrackRoutes(2, 5, 3);
        CHECKS.due("some", r.bar(0, 1, 0, 2, 1), true);
        CHECKS.due("barred", r.count(2), 4);
        CHECKS.due("none new", r.bar(0, 1, 1, 2, 1), false);
        CHECKS.due("one new", r.bar(0, 2, 1, 3, 1), true);
        CHECKS.due("one more", r.count(2), 5);
        CHECKS.due("all of the other layer", r.bar(1, 0, 0, 4, 2), true);
        CHECKS.due("all counted", r.count(2), 20);
        CHECKS.outOfBounds("layer", () -> r.bar(2, 0, 0, 0, 0));
        CHECKS.outOfBounds("layer below 0", () -> r.bar(-1, 0, 0, 0, 0));
        CHECKS.outOfBounds("layer before places", () -> r.bar(2, 3, 0, 1, 9));
        CHECKS.illegalArgument("x0 below 0", () -> r.bar(0, -1, 0, 0, 0));
        CHECKS.illegalArgument("y0 below 0", () -> r.bar(0, 0, -1, 0, 0));
        CHECKS.illegalArgument("x1 width", () -> r.bar(0, 0, 0, 5, 0));
        CHECKS.illegalArgument("y1 height", () -> r.bar(0, 0, 0, 0, 3));
        CHECKS.illegalArgument("x0 above x1", () -> r.bar(0, 1, 0, 0, 0));
        CHECKS.illegalArgument("y0 above y1", () -> r.bar(0, 0, 1, 0, 0));
        CHECKS.illegalArgument("wrapped", () -> r.bar(0, 0, 0, 1L << 32, 0));
        CHECKS.illegalArgument("x1 below 0", () -> r.bar(0, 0, 0, Long.MIN_VALUE, 0));
        CHECKS.due("the same", r.count(2), 20);
    }

    private static void promise7Shield() {
        TrackRoutes r = new TrackRoutes(1, 5, 3);
        CHECKS.outOfBounds("no net", () -> r.shield(0));
        r.net();
        r.net();
        CHECKS.due("on", r.shield(1), true);
        CHECKS.due("other on", r.shield(0), true);
        CHECKS.due("off", r.shield(1), false);
        CHECKS.due("on again", r.shield(1), true);
        CHECKS.outOfBounds("net 2", () -> r.shield(2));
        CHECKS.outOfBounds("net -1", () -> r.shield(-1));
        shieldKeepsAway();
    }

    /** Rows 0 and 1 of one layer: without a shield side by side, with one on either net not. */
    private static void shieldKeepsAway() {
        for (int shielded = 0; shielded < 2; shielded++) {
            TrackRoutes r = new TrackRoutes(1, 5, 2);
            Scenes.netAt(r, 0, 0, 4, 0);
            Scenes.netAt(r, 0, 1, 4, 1);
            CHECKS.due("side by side", r.run(1), 0);
            r.shield(shielded);
            CHECKS.due("shielded " + shielded, r.run(1), 1);
            CHECKS.due("closed", r.open(0, 0) + " " + r.open(0, 1), "1 1");
            r.shield(shielded);
            CHECKS.due("side by side again", r.run(1), 0);
        }
    }

    private static void promise8RunWays() {
        TrackRoutes r = new TrackRoutes(1, 5, 3);
        int net = Scenes.netAt(r, 0, 1, 4, 1);
        CHECKS.due("straight", r.run(1), 0);
        CHECKS.due("straight way", Scenes.pieces(r, net), "0,0,1 0,1,1 0,2,1 0,3,1 0,4,1");
        r.bar(0, 2, 1, 2, 2);
        CHECKS.due("round a wall", r.run(1), 0);
        CHECKS.due("lesser x first from the end back", Scenes.pieces(r, net),
            "0,0,0 0,1,0 0,2,0 0,3,0 0,0,1 0,3,1 0,4,1");
        r.bar(0, 2, 0, 2, 0);
        CHECKS.due("walled off", r.run(8), 1);
        CHECKS.due("only its pins", Scenes.pieces(r, net), "0,0,1 0,4,1");
        CHECKS.due("no way in every round", Scenes.counts(r), "1 2 3 8 0 0");
        CHECKS.illegalArgument("rounds 9", () -> r.run(9));
        CHECKS.illegalArgument("rounds -1", () -> r.run(-1));
        threePinsOneCutOff();
    }

    /** The way to the near pin is found each round, and is lost with the route when the far pin has none. */
    private static void threePinsOneCutOff() {
        TrackRoutes r = new TrackRoutes(1, 5, 1);
        int net = Scenes.netAt(r, 0, 0, 2, 0, 4, 0);
        r.bar(0, 3, 0, 3, 0);
        CHECKS.due("open", r.run(2), 1);
        CHECKS.due("why", r.open(0, 1), 2);
        CHECKS.due("no route left", Scenes.pieces(r, net), "0,0,0 0,2,0 0,4,0");
        CHECKS.due("a way in each round", Scenes.counts(r), "1 3 1 2 2 0");
    }

    /** On layer 0 tracks go along x, on layer 1 along y; a jog and vias are paid for. */
    private static void promise8RunRules() {
        TrackRoutes r = new TrackRoutes(2, 2, 5);
        int net = Scenes.netAt(r, 0, 0, 0, 4);
        r.run(1);
        CHECKS.due("4 steps by vias cost 14, across 16", Scenes.pieces(r, net),
            "0,0,0^ 0,0,4^ 1,0,0 1,0,1 1,0,2 1,0,3 1,0,4");
        r.rule(1, 0, 2);
        r.run(1);
        CHECKS.due("across costs 12 now", Scenes.pieces(r, net), "0,0,0 0,0,1 0,0,2 0,0,3 0,0,4");
        r.rule(2, 0, 3);
        r.run(1);
        CHECKS.due("by vias 10", Scenes.pieces(r, net), "0,0,0^ 0,0,4^ 1,0,0 1,0,1 1,0,2 1,0,3 1,0,4");
        r.rule(2, 1, 50);
        r.run(1);
        CHECKS.due("the lower layer's via counts", Scenes.pieces(r, net),
            "0,0,0^ 0,0,4^ 1,0,0 1,0,1 1,0,2 1,0,3 1,0,4");
        TrackRoutes odd = new TrackRoutes(2, 3, 1);
        int across = odd.net();
        Scenes.pinAt(odd, across, 1, 0, 0);
        Scenes.pinAt(odd, across, 1, 2, 0);
        odd.rule(1, 1, 4);
        odd.run(1);
        CHECKS.due("along x on layer 1 costs 10, below 12", Scenes.pieces(odd, across), "1,0,0 1,1,0 1,2,0");
        odd.rule(1, 1, 6);
        odd.run(1);
        CHECKS.due("along x on layer 1 costs 14", Scenes.pieces(odd, across), "0,0,0^ 0,1,0 0,2,0^ 1,0,0 1,2,0");
        spaceKeepsAway();
    }

    private static void spaceKeepsAway() {
        for (int space = 0; space <= 2; space++) {
            for (int shielded = 0; shielded <= 1; shielded++) {
                TrackRoutes r = new TrackRoutes(1, 12, 9);
                r.rule(0, 0, space);
                int far = space + shielded;
                // Else the way by row 3 would be as short as by row 5, if the pillar stands in row 4.
                r.bar(0, 7, 0, 7, 3);
                int pillar = Scenes.netAt(r, 6, 4 - far);
                int net = Scenes.netAt(r, 0, 4, 11, 4);
                if (shielded == 1) {
                    r.shield(pillar);
                }
                CHECKS.due("a way round", r.run(1), 0);
                CHECKS.due("clear of the pillar by " + far, Scenes.pieces(r, net), roundThePillar(7 + far));
            }
        }
    }

    /** From the end back along row 4 to the x where the pillar comes too near, then by row 5. */
    private static String roundThePillar(int jogAt) {
        StringBuilder text = new StringBuilder("0,0,4");
        for (int x = jogAt; x <= 11; x++) {
            text.append(" 0,").append(x).append(",4");
        }
        for (int x = 0; x <= jogAt; x++) {
            text.append(" 0,").append(x).append(",5");
        }
        return text.toString();
    }

    private static void promise8RunTies() {
        backFrom("lesser x", 0, 0, 2, 2, "0,0,0 0,0,1 0,0,2 0,1,2 0,2,2");
        backFrom("greater x", 2, 0, 0, 2, "0,2,0 0,2,1 0,0,2 0,1,2 0,2,2");
        backFrom("lesser x, upwards", 0, 2, 2, 0, "0,0,0 0,1,0 0,2,0 0,0,1 0,0,2");
        TrackRoutes r = new TrackRoutes(1, 3, 3);
        r.rule(1, 0, 0);
        int net = Scenes.netAt(r, 2, 2, 0, 1, 1, 0);
        r.run(1);
        CHECKS.due("of two ends the first in the order comes first", Scenes.pieces(r, net),
            "0,1,0 0,2,0 0,0,1 0,1,1 0,2,1 0,2,2");
        layersComeLast();
        lesserYBeforeGreater();
    }

    private static void backFrom(String name, int x0, int y0, int x1, int y1, String want) {
        TrackRoutes r = new TrackRoutes(1, 3, 3);
        r.rule(1, 0, 0);
        int net = Scenes.netAt(r, x0, y0, x1, y1);
        r.run(1);
        CHECKS.due(name, Scenes.pieces(r, net), want);
    }

    /** From (0, 0, 0) to (1, 1, 0) with steps of 1: back along x first, then down; the way back up likewise. */
    private static void layersComeLast() {
        TrackRoutes r = new TrackRoutes(2, 2, 1);
        r.rule(1, 1, 0);
        r.rule(2, 0, 1);
        int net = r.net();
        Scenes.pinAt(r, net, 0, 0, 0);
        Scenes.pinAt(r, net, 1, 1, 0);
        r.run(1);
        CHECKS.due("x before the layer below", Scenes.pieces(r, net), "0,0,0^ 1,0,0 1,1,0");
        TrackRoutes up = new TrackRoutes(3, 1, 2);
        up.rule(1, 0, 0);
        up.rule(1, 2, 0);
        up.rule(2, 0, 1);
        up.rule(2, 1, 1);
        int other = up.net();
        Scenes.pinAt(up, other, 2, 0, 0);
        Scenes.pinAt(up, other, 0, 0, 1);
        up.run(1);
        CHECKS.due("y before the layer above", Scenes.pieces(up, other), "0,0,0^ 0,0,1 1,0,0^ 2,0,0");
        belowBeforeAbove();
    }

    /** On layer 1 the place between both pins is barred: round it below or above costs the same. */
    private static void belowBeforeAbove() {
        TrackRoutes r = new TrackRoutes(3, 3, 1);
        int net = r.net();
        Scenes.pinAt(r, net, 1, 0, 0);
        Scenes.pinAt(r, net, 1, 2, 0);
        r.bar(1, 1, 0, 1, 0);
        r.run(1);
        CHECKS.due("below before above", Scenes.pieces(r, net), "0,0,0^ 0,1,0 0,2,0^ 1,0,0 1,2,0");
        r.bar(0, 1, 0, 1, 0);
        r.run(1);
        CHECKS.due("above, when there is none below", Scenes.pieces(r, net), "1,0,0^ 1,2,0^ 2,0,0 2,1,0 2,2,0");
    }

    private static void lesserYBeforeGreater() {
        TrackRoutes r = new TrackRoutes(1, 3, 3);
        int net = Scenes.netAt(r, 0, 1, 2, 1);
        r.bar(0, 1, 1, 1, 1);
        r.run(1);
        CHECKS.due("lesser y before greater", Scenes.pieces(r, net), "0,0,0 0,1,0 0,2,0 0,0,1 0,2,1");
    }

    private static void promise8RunTearing() {
        TrackRoutes r = Scenes.plus();
        CHECKS.due("one is open", r.run(1), 1);
        CHECKS.due("torn up", r.open(0, 0) + " " + r.open(0, 1), "0 3");
        CHECKS.due("the row lost its route", Scenes.pieces(r, 0), "0,0,1 0,4,1");
        CHECKS.due("the column has one", Scenes.pieces(r, 1), "0,2,0 0,2,1 0,2,2");
        CHECKS.due("one way free, one torn", Scenes.counts(r), "2 4 8 1 1 1");
        CHECKS.due("history", r.history(0, 2, 1), 5);
        CHECKS.due("both torn in round 2, the column anew in it", r.run(2), 1);
        CHECKS.due("round 2", Scenes.counts(r) + " " + r.history(0, 2, 1), "2 4 8 2 1 3 15");
        CHECKS.due("as many rounds as told", r.run(8), 1);
        CHECKS.due("rounds", Scenes.counts(r) + " " + r.history(0, 2, 1), "2 4 8 8 1 15 75");
        tearsTheCheaper();
        tearsSeveral();
    }

    /** Straight down two routes are torn, for 16 and 40; round the second one only one, for 20 and 20. */
    private static void tearsTheCheaper() {
        TrackRoutes r = new TrackRoutes(1, 7, 5);
        Scenes.netAt(r, 0, 1, 6, 1);
        Scenes.netAt(r, 2, 2, 4, 2);
        int column = Scenes.netAt(r, 3, 0, 3, 4);
        CHECKS.due("one torn", r.run(1), 1);
        CHECKS.due("which", r.open(0, 0), 0);
        CHECKS.due("by the way round", Scenes.pieces(r, column),
            "0,1,0 0,2,0 0,3,0 0,1,1 0,1,2 0,1,3 0,1,4 0,2,4 0,3,4");
        CHECKS.due("there", r.history(0, 1, 1) + " " + r.history(0, 3, 1) + " " + r.history(0, 3, 2), "5 0 0");
    }

    /** With a space of 1 the column clashes with the row at three places: each has a history then. */
    private static void tearsSeveral() {
        TrackRoutes r = new TrackRoutes(1, 9, 7);
        r.rule(0, 0, 1);
        Scenes.netAt(r, 0, 3, 8, 3);
        Scenes.netAt(r, 4, 0, 4, 6);
        CHECKS.due("torn", r.run(1), 1);
        String past = "";
        for (int y = 0; y < 7; y++) {
            past += " " + r.history(0, 4, y);
        }
        CHECKS.due("places at which it clashes", past, " 0 0 5 5 5 0 0");
        CHECKS.due("not beside the way", r.history(0, 3, 3) + r.history(0, 5, 3), 0);
        TrackRoutes two = new TrackRoutes(1, 5, 4);
        Scenes.netAt(two, 0, 1, 4, 1);
        Scenes.netAt(two, 0, 2, 4, 2);
        Scenes.netAt(two, 2, 0, 2, 3);
        CHECKS.due("two torn by one way", two.run(1), 2);
        CHECKS.due("which", two.open(0, 0) + " " + two.open(1, 0) + " " + two.count(5), "0 1 1");
    }

    /**
     * Round 2 of the cross: the row must tear at (2, 1) again, for it is the one place of the column without a pin.
     * Then (2, 1) costs the column 8 and 20 and a history of 10; by (1, 1) it is 10 and 20.
     */
    private static void promise8RunHistoryCosts() {
        TrackRoutes r = Scenes.cross();
        r.run(2);
        CHECKS.due("the column goes elsewhere", Scenes.pieces(r, 1), "0,1,0 0,2,0 0,1,1 0,1,2 0,2,2");
        CHECKS.due("histories", r.history(0, 2, 1) + " " + r.history(0, 1, 1) + " " + r.history(0, 3, 1), "10 5 0");
        TrackRoutes layers = new TrackRoutes(2, 5, 3);
        Scenes.netAt(layers, 0, 1, 4, 1);
        Scenes.netAt(layers, 2, 0, 2, 2);
        CHECKS.due("with another layer there is a way", layers.run(8), 0);
        CHECKS.due("and no tearing up", Scenes.counts(layers), "2 4 0 1 2 0");
        CHECKS.due("over the row", Scenes.pieces(layers, 1), "0,2,0^ 0,2,2^ 1,2,0 1,2,1 1,2,2");
    }

    private static void promise8RunRounds() {
        TrackRoutes r = new TrackRoutes(1, 5, 3);
        int one = Scenes.netAt(r, 0, 0);
        int none = r.net();
        CHECKS.due("none and one pin are joined", r.run(8), 0);
        CHECKS.due("without a round", r.joined(one) + " " + r.joined(none) + " " + r.count(3), "true true 0");
        int same = Scenes.netAt(r, 2, 2, 2, 2);
        CHECKS.due("never routed", r.run(0), 1);
        CHECKS.due("also 3", r.open(0, 0) + " " + r.open(0, 1), same + " 3");
        CHECKS.due("two pins at one place", r.run(8), 0);
        CHECKS.due("a round, no way", Scenes.counts(r), "3 3 0 1 0 0");
        int open = r.net();
        r.pin(open);
        CHECKS.due("a pin without access closes its net", r.run(8), 1);
        CHECKS.due("closed", r.open(0, 0) + " " + r.open(0, 1), open + " 1");
    }

    private static void promise9Piece() {
        TrackRoutes r = new TrackRoutes(1, 3, 2);
        int net = Scenes.netAt(r, 0, 0, 2, 0);
        CHECKS.outOfBounds("net before run", () -> r.piece(1, 0, 0));
        CHECKS.outOfBounds("net below 0", () -> r.piece(-1, 0, 0));
        CHECKS.outOfBounds("what before run", () -> r.piece(net, 0, 4));
        CHECKS.outOfBounds("what below 0", () -> r.piece(net, 0, -1));
        CHECKS.illegalState("run before k", () -> r.piece(net, 9, 0));
        CHECKS.illegalState("run before k below 0", () -> r.piece(net, -1, 0));
        r.run(1);
        CHECKS.due("second", r.piece(net, 1, 0) + " " + r.piece(net, 1, 1) + " " + r.piece(net, 1, 2), "0 1 0");
        CHECKS.outOfBounds("k", () -> r.piece(net, 3, 0));
        CHECKS.outOfBounds("k below 0", () -> r.piece(net, -1, 0));
        CHECKS.outOfBounds("greatest k", () -> r.piece(net, Integer.MAX_VALUE, 0));
        CHECKS.outOfBounds("lowest k", () -> r.piece(net, Integer.MIN_VALUE, 0));
        CHECKS.outOfBounds("what with a run", () -> r.piece(net, 0, 4));
        int empty = r.net();
        r.run(1);
        CHECKS.outOfBounds("stands nowhere", () -> r.piece(empty, 0, 0));
    }

    /** Two rows above each other that came by different ways: no via joins them in the middle. */
    private static void promise9Vias() {
        TrackRoutes r = new TrackRoutes(2, 3, 1);
        r.rule(1, 1, 0);
        r.rule(2, 0, 2);
        int net = r.net();
        Scenes.pinAt(r, net, 0, 0, 0);
        Scenes.pinAt(r, net, 1, 0, 0);
        Scenes.pinAt(r, net, 1, 1, 0);
        Scenes.pinAt(r, net, 0, 1, 0);
        CHECKS.due("joined", r.run(1), 0);
        CHECKS.due("a via where the route steps", Scenes.pieces(r, net), "0,0,0^ 0,1,0 1,0,0 1,1,0");
        TrackRoutes alone = new TrackRoutes(2, 1, 1);
        int split = alone.net();
        Scenes.pinAt(alone, split, 0, 0, 0);
        Scenes.pinAt(alone, split, 1, 0, 0);
        alone.run(0);
        CHECKS.due("without a route no via", Scenes.pieces(alone, split), "0,0,0 1,0,0");
        alone.run(1);
        CHECKS.due("with one", Scenes.pieces(alone, split), "0,0,0^ 1,0,0");
    }

    private static void promise10Chosen() {
        TrackRoutes r = new TrackRoutes(2, 6, 6);
        int a = r.net();
        int b = r.net();
        int p = r.pin(a);
        int q = r.pin(b);
        int s = r.pin(a);
        CHECKS.outOfBounds("pin before run", () -> r.chosen(3));
        CHECKS.outOfBounds("pin below 0", () -> r.chosen(-1));
        CHECKS.illegalState("no run", () -> r.chosen(p));
        r.access(p, 0, 2, 2);
        r.access(q, 0, 2, 2);
        r.access(q, 0, 3, 3);
        r.access(q, 0, 4, 4);
        r.access(q, 1, 2, 2);
        r.access(s, 0, 2, 2);
        r.run(0);
        CHECKS.due("none clash", r.chosen(p) + " " + r.chosen(q) + " " + r.chosen(s), "0 1 0");
        r.rule(0, 0, 1);
        r.run(0);
        CHECKS.due("space 1", r.chosen(q), 2);
        r.shield(b);
        r.run(0);
        CHECKS.due("and a shield", r.chosen(q), 3);
        r.rule(0, 1, 2);
        r.run(0);
        CHECKS.due("other layers do not clash", r.chosen(q), 3);
        r.bar(1, 2, 2, 2, 2);
        CHECKS.due("closed", r.run(0), 2);
        CHECKS.due("no place left", r.chosen(q), -1);
        r.bar(0, 2, 2, 2, 2);
        r.run(0);
        CHECKS.due("free for the later one", r.chosen(p) + " " + r.chosen(q) + " " + r.chosen(s), "-1 1 -1");
        CHECKS.outOfBounds("pin with a run", () -> r.chosen(3));
    }

    private static void promise11Open() {
        TrackRoutes r = new TrackRoutes(1, 6, 3);
        CHECKS.outOfBounds("what before run", () -> r.open(0, 2));
        CHECKS.outOfBounds("what below 0", () -> r.open(0, -1));
        CHECKS.outOfBounds("k before run", () -> r.open(-1, 0));
        CHECKS.illegalState("no run", () -> r.open(0, 0));
        int torn = Scenes.netAt(r, 0, 0, 5, 0);
        int closed = r.net();
        r.pin(closed);
        int whole = Scenes.netAt(r, 0, 1);
        int cut = Scenes.netAt(r, 0, 2, 5, 2);
        r.bar(0, 3, 2, 3, 2);
        r.bar(0, 3, 1, 3, 1);
        CHECKS.due("none routed", r.run(0), 3);
        CHECKS.due("whys", r.open(0, 1) + " " + r.open(1, 1) + " " + r.open(2, 1), "3 1 3");
        CHECKS.due("tears the way by (3, 0)", r.run(1), 2);
        CHECKS.due("nets", r.open(0, 0) + " " + r.open(1, 0) + " " + r.open(2, 0), torn + " " + closed + " -1");
        CHECKS.due("why torn", r.open(0, 1) + " " + r.open(1, 1) + " " + r.open(2, 1), "3 1 -1");
        CHECKS.due("joined", r.joined(whole) + " " + r.joined(cut), "true true");
        r.bar(0, 3, 0, 3, 0);
        CHECKS.due("no way at all", r.run(1), 3);
        CHECKS.due("why no way", r.open(0, 1) + " " + r.open(1, 1) + " " + r.open(2, 1), "2 1 2");
        CHECKS.due("far too many", r.open(Integer.MAX_VALUE, 1), -1);
    }

    private static void promise12Joined() {
        TrackRoutes r = new TrackRoutes(1, 5, 1);
        CHECKS.outOfBounds("no net", () -> r.joined(0));
        int net = Scenes.netAt(r, 0, 0, 4, 0);
        CHECKS.illegalState("no run", () -> r.joined(net));
        CHECKS.outOfBounds("net before run", () -> r.joined(1));
        CHECKS.outOfBounds("net below 0", () -> r.joined(-1));
        r.run(0);
        CHECKS.due("not routed", r.joined(net), false);
        r.run(1);
        CHECKS.due("routed", r.joined(net), true);
        r.bar(0, 2, 0, 2, 0);
        r.run(1);
        CHECKS.due("no way", r.joined(net), false);
    }

    /** A run leaves no clash: what could clash is not chosen, not walked over, or torn up. */
    private static void promise13Broken() {
        TrackRoutes r = Scenes.cross();
        CHECKS.outOfBounds("k before run", () -> r.broken(-1));
        CHECKS.illegalState("no run", () -> r.broken(0));
        for (int rounds = 0; rounds <= 8; rounds++) {
            r.run(rounds);
            CHECKS.due("none after " + rounds, r.broken(0) + " " + r.broken(Integer.MAX_VALUE), "-1 -1");
        }
        CHECKS.outOfBounds("k with a run", () -> r.broken(Integer.MIN_VALUE));
    }

    private static void promise14History() {
        TrackRoutes r = Scenes.cross();
        CHECKS.illegalState("no run", () -> r.history(0, 2, 1));
        CHECKS.outOfBounds("layer before run", () -> r.history(1, 0, 0));
        CHECKS.outOfBounds("x before run", () -> r.history(0, 5, 0));
        CHECKS.outOfBounds("y before run", () -> r.history(0, 0, 3));
        CHECKS.outOfBounds("layer below 0", () -> r.history(-1, 0, 0));
        CHECKS.outOfBounds("x below 0", () -> r.history(0, -1, 0));
        CHECKS.outOfBounds("y below 0", () -> r.history(0, 0, -1));
        CHECKS.outOfBounds("wrapped", () -> r.history(0, 1L << 32, 1L << 32));
        r.run(1);
        CHECKS.due("where it was torn", r.history(0, 2, 1), 5);
        CHECKS.due("elsewhere", r.history(0, 1, 1) + r.history(0, 2, 0), 0);
        r.run(0);
        CHECKS.due("a run begins anew", r.history(0, 2, 1), 0);
    }

    private static void promise15Count() {
        TrackRoutes r = Scenes.cross();
        CHECKS.outOfBounds("what 6", () -> r.count(6));
        CHECKS.outOfBounds("what -1", () -> r.count(-1));
        CHECKS.due("without a run", Scenes.counts(r), "2 4 0 0 0 0");
        r.run(3);
        CHECKS.due("with one", Scenes.counts(r), "2 4 0 3 1 5");
        r.bar(0, 0, 0, 1, 0);
        CHECKS.due("changed since", Scenes.counts(r), "2 4 2 0 0 0");
        r.run(1);
        CHECKS.due("the latest one", Scenes.counts(r), "2 4 2 1 1 1");
    }

    private static void stale(TrackRoutes r, String what) {
        CHECKS.illegalState(what + ": piece", () -> r.piece(0, 0, 0));
        CHECKS.illegalState(what + ": chosen", () -> r.chosen(0));
        CHECKS.illegalState(what + ": open", () -> r.open(0, 0));
        CHECKS.illegalState(what + ": joined", () -> r.joined(0));
        CHECKS.illegalState(what + ": broken", () -> r.broken(0));
        CHECKS.illegalState(what + ": history", () -> r.history(0, 0, 0));
        CHECKS.due(what + ": counts", r.count(3) + r.count(4) + r.count(5), 0);
        r.run(2);
        CHECKS.dueCall(what + ": told again", () -> r.chosen(0), 0);
    }

    private static void changesEndARun() {
        TrackRoutes r = Scenes.cross();
        stale(r, "new");
        r.net();
        stale(r, "net");
        r.pin(2);
        stale(r, "pin");
        r.access(4, 0, 4, 2);
        stale(r, "access");
        r.bar(0, 4, 0, 4, 0);
        stale(r, "bar");
        r.rule(2, 0, 6);
        stale(r, "rule");
        r.shield(2);
        stale(r, "shield");
        r.access(4, 0, 4, 2);
        CHECKS.dueCall("an access that it has is no change", () -> r.chosen(0), 0);
        r.bar(0, 4, 0, 4, 0);
        CHECKS.dueCall("a bar of what is barred is no change", () -> r.chosen(0), 0);
        r.rule(2, 0, 6);
        CHECKS.dueCall("a rule as before is no change", () -> r.chosen(0), 0);
    }
}
