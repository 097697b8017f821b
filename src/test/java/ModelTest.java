import java.util.ArrayList;
import java.util.List;
import java.util.Random;

/** The same calls, made up from fixed seeds, to the program and to PlainModel: the answers are the same. */
public final class ModelTest {
    private static final Checks CHECKS = new Checks();
    private static final int MOST_CALLS = 512;
    private static int tornRuns = 0;
    private static int noWayRuns = 0;
    private static int tornOpen = 0;

    public static void main(String[] args) {
        int tries = args.length > 0 ? Integer.parseInt(args[0]) : 600;
        for (int seed = 0; seed < tries; seed++) {
            new ModelTest(seed).tryAll();
        }
        CHECKS.due("runs with tearing up were tried", tornRuns > tries / 10, true);
        CHECKS.due("nets without a way were tried", noWayRuns > tries / 20, true);
        CHECKS.due("nets torn up in the end were tried", tornOpen > tries / 20, true);
        System.out.println(tornRuns + " runs with tearing up, " + noWayRuns + " with nets without a way, "
            + tornOpen + " with nets torn up in the end");
        CHECKS.end("ModelTest");
    }

    private final int seed;
    private final Random random;
    private final int layers;
    private final int width;
    private final int height;
    private TrackRoutes program;
    private final PlainModel model;
    /** Calls of the program that may have changed it, to make another one like it. */
    private final List<Checks.Call> changes = new ArrayList<>();
    private int calls = 0;

    private ModelTest(int seed) {
        this.seed = seed;
        random = new Random(seed);
        layers = 1 + random.nextInt(3);
        int side = seed % 50 == 0 ? 24 : 9;
        width = 1 + random.nextInt(side);
        height = 1 + random.nextInt(side);
        program = new TrackRoutes(layers, width, height);
        model = new PlainModel(layers, width, height);
    }

    private void same(String call, Checks.Call one, Checks.Call other) {
        if (calls >= MOST_CALLS) {
            makeAnew();
        }
        calls++;
        CHECKS.due("seed " + seed + ": " + call, Checks.answer(one), Checks.answer(other));
    }

    private void sameChange(String call, Checks.Call one, Checks.Call other) {
        same(call, one, other);
        changes.add(one);
    }

    /** Nothing is promised of an object after 512 calls: another one goes on in its place. */
    private void makeAnew() {
        program = new TrackRoutes(layers, width, height);
        for (Checks.Call change : changes) {
            Checks.answer(change);
        }
        calls = changes.size();
    }

    private void tryAll() {
        int nets = 1 + random.nextInt(8);
        for (int k = 0; k < nets; k++) {
            sameChange("net", () -> program.net(), model::net);
        }
        int pins = random.nextInt(4 * nets);
        for (int k = 0; k < pins; k++) {
            addPin(random.nextInt(nets));
        }
        for (int k = random.nextInt(4); k > 0; k--) {
            bar();
        }
        for (int k = random.nextInt(6); k > 0; k--) {
            rule();
        }
        if (random.nextInt(3) == 0) {
            shield(random.nextInt(nets));
        }
        look();
        for (int turn = 0; turn < 4; turn++) {
            int rounds = random.nextInt(10) - 1 + (turn == 0 ? 2 : 0);
            sameChange("run(" + rounds + ")", () -> program.run(rounds), () -> model.run(rounds));
            tally();
            look();
            for (int k = random.nextInt(4); k >= 0; k--) {
                change(nets);
            }
            look();
        }
    }

    private void tally() {
        tornRuns += model.count(5) > 0 ? 1 : 0;
        for (int k = 0; k < 16; k++) {
            int which = k;
            Object why = Checks.answer(() -> model.open(which, 1));
            noWayRuns += why.equals(2) ? 1 : 0;
            tornOpen += why.equals(3) && model.count(3) > 0 ? 1 : 0;
        }
    }

    private void addPin(int net) {
        sameChange("pin(" + net + ")", () -> program.pin(net), () -> model.pin(net));
        for (int k = random.nextInt(3); k >= 0; k--) {
            access(model.count(1) - 1);
        }
    }

    /** Mostly within 0 .. size - 1, now and then beside it. */
    private int near(int size) {
        return random.nextInt(40) == 0 ? random.nextInt(size + 4) - 2 : random.nextInt(size);
    }

    private void access(int pin) {
        int layer = near(layers);
        long x = near(width);
        long y = near(height);
        sameChange("access(" + pin + ", " + layer + ", " + x + ", " + y + ")",
            () -> program.access(pin, layer, x, y), () -> model.access(pin, layer, x, y));
    }

    private void bar() {
        int layer = near(layers);
        long x0 = near(width);
        long y0 = near(height);
        long x1 = random.nextBoolean() ? x0 : x0 + near(3);
        long y1 = x0 != x1 ? y0 : y0 + near(3);
        sameChange("bar(" + layer + ", " + x0 + ", " + y0 + ", " + x1 + ", " + y1 + ")",
            () -> program.bar(layer, x0, y0, x1, y1), () -> model.bar(layer, x0, y0, x1, y1));
    }

    private void rule() {
        int kind = near(3);
        int layer = near(layers);
        long v = random.nextInt(5) == 0 ? random.nextInt(60) - 4 : random.nextInt(4);
        sameChange("rule(" + kind + ", " + layer + ", " + v + ")",
            () -> program.rule(kind, layer, v), () -> model.rule(kind, layer, v));
    }

    private void shield(int net) {
        sameChange("shield(" + net + ")", () -> program.shield(net), () -> model.shield(net));
    }

    private void change(int nets) {
        switch (random.nextInt(6)) {
            case 0:
                rule();
                break;
            case 1:
                bar();
                break;
            case 2:
                shield(near(nets));
                break;
            case 3:
                access(near(model.count(1) + 1));
                break;
            case 4:
                sameChange("net", () -> program.net(), model::net);
                break;
            default:
                addPin(near(nets));
                break;
        }
    }

    private void look() {
        for (int k = -1; k < 18; k++) {
            int which = k;
            same("count(" + k + ")", () -> program.count(which), () -> model.count(which));
            same("joined(" + k + ")", () -> program.joined(which), () -> model.joined(which));
            for (int what = -1; what < 3; what++) {
                int kind = what;
                same("open(" + k + ", " + what + ")", () -> program.open(which, kind), () -> model.open(which, kind));
            }
        }
        for (int k = -1; k < 41; k++) {
            int pin = k;
            same("chosen(" + k + ")", () -> program.chosen(pin), () -> model.chosen(pin));
        }
        for (int k = -1; k < 2; k++) {
            int which = k;
            same("broken(" + k + ")", () -> program.broken(which), () -> model.broken(which));
        }
        lookAtPlaces();
    }

    private void lookAtPlaces() {
        for (int l = -1; l <= layers; l++) {
            for (int y = -1; y <= height; y++) {
                for (int x = -1; x <= width; x++) {
                    int layer = l;
                    long px = x;
                    long py = y;
                    same("history(" + l + ", " + x + ", " + y + ")",
                        () -> program.history(layer, px, py), () -> model.history(layer, px, py));
                }
            }
        }
        for (int n = -1; n < model.count(0) + 1; n++) {
            int net = n;
            boolean more = true;
            for (int k = -1; more; k++) {
                int which = k;
                for (int w = -1; w < 5; w++) {
                    int what = w;
                    same("piece(" + n + ", " + k + ", " + w + ")",
                        () -> program.piece(net, which, what), () -> model.piece(net, which, what));
                }
                more = k < 0 || Checks.answer(() -> model.piece(net, which, 0)) instanceof Integer;
            }
        }
    }
}
