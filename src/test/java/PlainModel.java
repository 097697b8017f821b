import java.util.ArrayList;
import java.util.Collections;
import java.util.HashMap;
import java.util.List;
import java.util.Map;
import java.util.TreeSet;

/**
 * The document again, word by word and slowly: clashes are looked for pair by pair, costs are lowered until none can
 * be. It shares no code and no structure with the program, so that both being wrong alike is unlikely.
 */
final class PlainModel {
    private final int layers;
    private final int width;
    private final int height;
    private final int[] space = {0, 0, 0};
    private final int[] jog = {3, 3, 3};
    private final int[] via = {5, 5, 5};
    private final TreeSet<Integer> barred = new TreeSet<>();
    private final List<Boolean> shielded = new ArrayList<>();
    private final List<Integer> pinNets = new ArrayList<>();
    private final List<List<Integer>> accesses = new ArrayList<>();

    private boolean hasRun = false;
    private final List<Integer> choices = new ArrayList<>();
    private final Map<Integer, Integer> pasts = new HashMap<>();
    private final Map<Integer, TreeSet<Integer>> routes = new HashMap<>();
    private final Map<Integer, TreeSet<Integer>> viaPlaces = new HashMap<>();
    private final TreeSet<Integer> closed = new TreeSet<>();
    private final TreeSet<Integer> joined = new TreeSet<>();
    private final Map<Integer, Integer> whys = new HashMap<>();
    private int roundsMade;
    private int freeWays;
    private int tearingWays;

    PlainModel(int layers, long width, long height) {
        this.layers = layers < 1 ? 1 : layers > 3 ? 3 : layers;
        this.width = width < 1 ? 1 : width > 24 ? 24 : (int) width;
        this.height = height < 1 ? 1 : height > 24 ? 24 : (int) height;
    }

    private int at(int layer, long x, long y) {
        return (int) ((layer * height + y) * width + x);
    }

    private int layerOf(int p) {
        return p / (width * height);
    }

    private int yOf(int p) {
        return p / width % height;
    }

    private int xOf(int p) {
        return p % width;
    }

    private int places() {
        return layers * width * height;
    }

    private void index(boolean fine) {
        if (!fine) {
            throw new IndexOutOfBoundsException();
        }
    }

    private void state(boolean fine) {
        if (!fine) {
            throw new IllegalStateException();
        }
    }

    private void argument(boolean fine) {
        if (!fine) {
            throw new IllegalArgumentException();
        }
    }

    private boolean isPlace(int layer, long x, long y) {
        return layer >= 0 && layer < layers && x >= 0 && x < width && y >= 0 && y < height;
    }

    private boolean isNet(int net) {
        return net >= 0 && net < shielded.size();
    }

    private boolean isPin(int pin) {
        return pin >= 0 && pin < pinNets.size();
    }

    boolean rule(int kind, int layer, long v) {
        index(layer >= 0 && layer < layers);
        argument(kind >= 0 && kind <= 2);
        argument(v >= (kind == 2 ? 1 : 0) && v <= (kind == 0 ? 2 : 50));
        int[] numbers = kind == 0 ? space : kind == 1 ? jog : via;
        boolean other = numbers[layer] != v;
        numbers[layer] = (int) v;
        hasRun = hasRun && !other;
        return other;
    }

    int net() {
        state(shielded.size() < 16);
        shielded.add(false);
        hasRun = false;
        return shielded.size() - 1;
    }

    int pin(int net) {
        index(isNet(net));
        state(pinNets.size() < 40);
        pinNets.add(net);
        accesses.add(new ArrayList<>());
        hasRun = false;
        return pinNets.size() - 1;
    }

    boolean access(int pin, int layer, long x, long y) {
        index(isPin(pin) && isPlace(layer, x, y));
        state(accesses.get(pin).size() < 4);
        if (accesses.get(pin).contains(at(layer, x, y))) {
            return false;
        }
        accesses.get(pin).add(at(layer, x, y));
        hasRun = false;
        return true;
    }

    boolean bar(int layer, long x0, long y0, long x1, long y1) {
        index(layer >= 0 && layer < layers);
        argument(isPlace(layer, x0, y0) && isPlace(layer, x1, y1) && x0 <= x1 && y0 <= y1);
        boolean some = false;
        for (long y = y0; y <= y1; y++) {
            for (long x = x0; x <= x1; x++) {
                some = barred.add(at(layer, x, y)) || some;
            }
        }
        hasRun = hasRun && !some;
        return some;
    }

    boolean shield(int net) {
        index(isNet(net));
        shielded.set(net, !shielded.get(net));
        hasRun = false;
        return shielded.get(net);
    }

    /** Whether two nets clash, one at p, the other at q. */
    private boolean clash(int a, int p, int b, int q) {
        if (a == b || layerOf(p) != layerOf(q)) {
            return false;
        }
        int s = space[layerOf(p)] + (shielded.get(a) || shielded.get(b) ? 1 : 0);
        return Math.abs(xOf(p) - xOf(q)) <= s && Math.abs(yOf(p) - yOf(q)) <= s;
    }

    private int chosenPlace(int pin) {
        return accesses.get(pin).get(choices.get(pin));
    }

    private boolean clashesWithChosen(int net, int p) {
        for (int pin = 0; pin < choices.size(); pin++) {
            if (choices.get(pin) >= 0 && clash(net, p, pinNets.get(pin), chosenPlace(pin))) {
                return true;
            }
        }
        return false;
    }

    private TreeSet<Integer> routesHit(int net, int p) {
        TreeSet<Integer> hit = new TreeSet<>();
        for (int other : routes.keySet()) {
            for (int q : routes.get(other)) {
                if (clash(net, p, other, q)) {
                    hit.add(other);
                }
            }
        }
        return hit;
    }

    private void choose() {
        choices.clear();
        for (int pin = 0; pin < pinNets.size(); pin++) {
            int choice = -1;
            for (int k = accesses.get(pin).size() - 1; k >= 0; k--) {
                int p = accesses.get(pin).get(k);
                if (!barred.contains(p) && !clashesWithChosen(pinNets.get(pin), p)) {
                    choice = k;
                }
            }
            choices.add(choice);
            if (choice < 0) {
                closed.add(pinNets.get(pin));
            }
        }
    }

    private TreeSet<Integer> waiting() {
        TreeSet<Integer> nets = new TreeSet<>();
        for (int net = 0; net < shielded.size(); net++) {
            if (!closed.contains(net) && !joined.contains(net)) {
                nets.add(net);
            }
        }
        return nets;
    }

    int run(int rounds) {
        argument(rounds >= 0 && rounds <= 8);
        pasts.clear();
        routes.clear();
        viaPlaces.clear();
        closed.clear();
        joined.clear();
        whys.clear();
        roundsMade = 0;
        freeWays = 0;
        tearingWays = 0;
        choose();
        for (int net = 0; net < shielded.size(); net++) {
            if (Collections.frequency(pinNets, net) <= 1 && !closed.contains(net)) {
                joined.add(net);
            }
        }
        while (roundsMade < rounds && !waiting().isEmpty()) {
            roundsMade++;
            for (int net = 0; net < shielded.size(); net++) {
                if (waiting().contains(net)) {
                    route(net);
                }
            }
        }
        hasRun = true;
        return shielded.size() - joined.size();
    }

    private void route(int net) {
        TreeSet<Integer> tree = new TreeSet<>();
        TreeSet<Integer> goals = new TreeSet<>();
        for (int pin = 0; pin < pinNets.size(); pin++) {
            if (pinNets.get(pin) == net) {
                if (tree.isEmpty()) {
                    tree.add(chosenPlace(pin));
                }
                goals.add(chosenPlace(pin));
            }
        }
        TreeSet<Integer> vias = new TreeSet<>();
        goals.removeAll(tree);
        while (!goals.isEmpty()) {
            List<Integer> way = way(net, tree, goals, false);
            if (way != null) {
                freeWays++;
            } else {
                way = way(net, tree, goals, true);
                if (way == null) {
                    whys.put(net, 2);
                    return;
                }
                tearingWays++;
                tear(net, way);
            }
            for (int k = 1; k < way.size(); k++) {
                if (layerOf(way.get(k)) != layerOf(way.get(k - 1))) {
                    vias.add(Math.min(way.get(k), way.get(k - 1)));
                }
            }
            tree.addAll(way);
            goals.removeAll(tree);
        }
        routes.put(net, tree);
        viaPlaces.put(net, vias);
        joined.add(net);
    }

    private void tear(int net, List<Integer> way) {
        TreeSet<Integer> losers = new TreeSet<>();
        for (int p : way) {
            TreeSet<Integer> hit = routesHit(net, p);
            if (!hit.isEmpty()) {
                pasts.merge(p, 5, Integer::sum);
                losers.addAll(hit);
            }
        }
        for (int other : losers) {
            routes.remove(other);
            viaPlaces.remove(other);
            joined.remove(other);
            whys.put(other, 3);
        }
    }

    /** In the order in which the document prefers them; -1 where there is no place. */
    private int[] around(int p) {
        int l = layerOf(p);
        int x = xOf(p);
        int y = yOf(p);
        int[][] all = {{l, x - 1, y}, {l, x + 1, y}, {l, x, y - 1}, {l, x, y + 1}, {l - 1, x, y}, {l + 1, x, y}};
        int[] found = new int[6];
        for (int k = 0; k < 6; k++) {
            found[k] = isPlace(all[k][0], all[k][1], all[k][2]) ? at(all[k][0], all[k][1], all[k][2]) : -1;
        }
        return found;
    }

    private int stepCost(int p, int q) {
        int l = layerOf(p);
        if (l != layerOf(q)) {
            return via[Math.min(l, layerOf(q))];
        }
        boolean across = l % 2 == 0 ? xOf(p) == xOf(q) : yOf(p) == yOf(q);
        return across ? 1 + jog[l] : 1;
    }

    private List<Integer> way(int net, TreeSet<Integer> tree, TreeSet<Integer> goals, boolean tearing) {
        long[] onto = new long[places()];
        long[] least = new long[places()];
        long never = Long.MAX_VALUE / 4;
        for (int p = 0; p < places(); p++) {
            boolean hit = !routesHit(net, p).isEmpty();
            boolean shut = barred.contains(p) || clashesWithChosen(net, p) || hit && !tearing;
            onto[p] = shut ? never : pasts.getOrDefault(p, 0) + (hit ? 20 : 0);
            least[p] = tree.contains(p) ? 0 : never;
        }
        for (boolean lowered = true; lowered; ) {
            lowered = false;
            for (int p = 0; p < places(); p++) {
                for (int q : around(p)) {
                    if (q >= 0 && onto[p] < never && least[q] < never
                            && least[q] + stepCost(q, p) + onto[p] < least[p]) {
                        least[p] = least[q] + stepCost(q, p) + onto[p];
                        lowered = true;
                    }
                }
            }
        }
        int end = -1;
        for (int goal : goals) {
            if (least[goal] < never && (end < 0 || least[goal] < least[end])) {
                end = goal;
            }
        }
        return end < 0 ? null : back(end, tree, onto, least);
    }

    private List<Integer> back(int end, TreeSet<Integer> tree, long[] onto, long[] least) {
        List<Integer> way = new ArrayList<>();
        way.add(end);
        int p = end;
        while (!tree.contains(p)) {
            int from = -1;
            for (int q : around(p)) {
                if (from < 0 && q >= 0 && least[q] + stepCost(q, p) + onto[p] == least[p]) {
                    from = q;
                }
            }
            way.add(from);
            p = from;
        }
        return way;
    }

    private TreeSet<Integer> standing(int net) {
        TreeSet<Integer> all = new TreeSet<>(routes.getOrDefault(net, new TreeSet<>()));
        for (int pin = 0; pin < pinNets.size(); pin++) {
            if (pinNets.get(pin) == net && choices.get(pin) >= 0) {
                all.add(chosenPlace(pin));
            }
        }
        return all;
    }

    int piece(int net, int k, int what) {
        index(isNet(net) && what >= 0 && what <= 3);
        state(hasRun);
        List<Integer> all = new ArrayList<>(standing(net));
        index(k >= 0 && k < all.size());
        int p = all.get(k);
        int viaUp = viaPlaces.getOrDefault(net, new TreeSet<>()).contains(p) ? 1 : 0;
        return what == 0 ? layerOf(p) : what == 1 ? xOf(p) : what == 2 ? yOf(p) : viaUp;
    }

    int chosen(int pin) {
        index(isPin(pin));
        state(hasRun);
        return choices.get(pin);
    }

    int open(int k, int what) {
        index((what == 0 || what == 1) && k >= 0);
        state(hasRun);
        List<Integer> nets = new ArrayList<>();
        for (int net = 0; net < shielded.size(); net++) {
            if (!joined.contains(net)) {
                nets.add(net);
            }
        }
        if (k >= nets.size()) {
            return -1;
        }
        int net = nets.get(k);
        return what == 0 ? net : closed.contains(net) ? 1 : whys.getOrDefault(net, 3);
    }

    boolean joined(int net) {
        index(isNet(net));
        state(hasRun);
        return joined.contains(net);
    }

    int broken(int k) {
        index(k >= 0);
        state(hasRun);
        TreeSet<Integer> all = new TreeSet<>();
        for (int a = 0; a < shielded.size(); a++) {
            for (int b = 0; b < shielded.size(); b++) {
                for (int p : standing(a)) {
                    for (int q : standing(b)) {
                        if (clash(a, p, b, q)) {
                            all.add(p);
                        }
                    }
                }
            }
        }
        return k < all.size() ? new ArrayList<>(all).get(k) : -1;
    }

    int history(int layer, long x, long y) {
        index(isPlace(layer, x, y));
        state(hasRun);
        return pasts.getOrDefault(at(layer, x, y), 0);
    }

    int count(int what) {
        index(what >= 0 && what <= 5);
        int[] fixed = {shielded.size(), pinNets.size(), barred.size()};
        int[] found = {roundsMade, freeWays, tearingWays};
        return what < 3 ? fixed[what] : hasRun ? found[what - 3] : 0;
    }
}
