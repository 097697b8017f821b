import java.util.Arrays;

/** Detailed routes of nets on layers of tracks, as ../shared/DOC.md promises them. */
public final class TrackRoutes {
    public static final int NONE = -1;

    private static final int MOST_LAYERS = 3;
    private static final int MOST_SIDE = 24;
    private static final int MOST_NETS = 16;
    private static final int MOST_PINS = 40;
    private static final int MOST_ACCESS = 4;
    private static final int MOST_ROUNDS = 8;

    private static final int KIND_SPACE = 0;
    private static final int KIND_JOG = 1;
    private static final int KIND_VIA = 2;

    private static final int WHY_CLOSED = 1;
    private static final int WHY_NO_WAY = 2;
    private static final int WHY_TORN = 3;

    private final Grid grid;
    private final Design design;
    private final Router router;
    /** There was a run, and nothing was changed since: what it found may be told. */
    private boolean told;

    public TrackRoutes(int layers, long width, long height) {
        int layerCount = Math.max(1, Math.min(MOST_LAYERS, layers));
        int columns = (int) Math.max(1L, Math.min((long) MOST_SIDE, width));
        int rows = (int) Math.max(1L, Math.min((long) MOST_SIDE, height));
        grid = new Grid(layerCount, columns, rows);
        design = new Design();
        router = new Router(grid, design);
        told = false;
    }

    public boolean rule(int kind, int layer, long v) throws IndexOutOfBoundsException, IllegalArgumentException {
        needLayer(layer);
        int[] rules = rulesOf(kind);
        long least = kind == KIND_VIA ? 1L : 0L;
        long most = kind == KIND_SPACE ? 2L : 50L;
        if (v < least || v > most) {
            throw new IllegalArgumentException("the rule's number is out of its range");
        }
        if (rules[layer] == (int) v) {
            return false;
        }
        rules[layer] = (int) v;
        told = false;
        return true;
    }

    public int net() throws IllegalStateException {
        if (design.nets >= MOST_NETS) {
            throw new IllegalStateException("there are as many nets as there can be");
        }
        told = false;
        return design.addNet();
    }

    public int pin(int net) throws IndexOutOfBoundsException, IllegalStateException {
        needNet(net);
        if (design.pins >= MOST_PINS) {
            throw new IllegalStateException("there are as many pins as there can be");
        }
        told = false;
        return design.addPin(net);
    }

    public boolean access(int pin, int layer, long x, long y) throws IndexOutOfBoundsException, IllegalStateException {
        needPin(pin);
        needPlace(layer, x, y);
        if (design.accessCount[pin] >= MOST_ACCESS) {
            throw new IllegalStateException("the pin has as many access places as there can be");
        }
        int place = grid.placeAt(layer, (int) x, (int) y);
        if (design.hasAccess(pin, place)) {
            return false;
        }
        design.addAccess(pin, place);
        told = false;
        return true;
    }

    public boolean bar(int layer, long x0, long y0, long x1, long y1)
            throws IndexOutOfBoundsException, IllegalArgumentException {
        needLayer(layer);
        if (x0 < 0 || x0 > x1 || x1 >= grid.width || y0 < 0 || y0 > y1 || y1 >= grid.height) {
            throw new IllegalArgumentException("these are no places from the lesser to the greater");
        }
        boolean some = false;
        for (int y = (int) y0; y <= (int) y1; y++) {
            for (int x = (int) x0; x <= (int) x1; x++) {
                some |= grid.close(grid.placeAt(layer, x, y));
            }
        }
        if (some) {
            told = false;
        }
        return some;
    }

    public boolean shield(int net) throws IndexOutOfBoundsException {
        needNet(net);
        told = false;
        design.shielded ^= 1 << net;
        return isIn(design.shielded, net);
    }

    public int run(int rounds) throws IllegalArgumentException {
        if (rounds < 0 || rounds > MOST_ROUNDS) {
            throw new IllegalArgumentException("rounds are 0 to 8");
        }
        router.begin();
        router.makeRounds(rounds);
        told = true;
        return design.nets - Integer.bitCount(router.joinedNets);
    }

    public int piece(int net, int k, int what) throws IndexOutOfBoundsException, IllegalStateException {
        needNet(net);
        needWhat(what, 4);
        needRun();
        int place = router.standingAt(net, k);
        if (place == NONE) {
            throw new IndexOutOfBoundsException("the net does not stand at so many places");
        }
        switch (what) {
            case 0:
                return grid.layerOf[place];
            case 1:
                return grid.xOf[place];
            case 2:
                return grid.yOf[place];
            default:
                return isIn(router.vias[place], net) ? 1 : 0;
        }
    }

    public int chosen(int pin) throws IndexOutOfBoundsException, IllegalStateException {
        needPin(pin);
        needRun();
        return router.choice[pin];
    }

    public int open(int k, int what) throws IndexOutOfBoundsException, IllegalStateException {
        needWhat(what, 2);
        needNotBelowZero(k);
        needRun();
        int net = router.openNet(k);
        if (net == NONE || what == 0) {
            return net;
        }
        return router.whyOpen(net);
    }

    public boolean joined(int net) throws IndexOutOfBoundsException, IllegalStateException {
        needNet(net);
        needRun();
        return isIn(router.joinedNets, net);
    }

    public int broken(int k) throws IndexOutOfBoundsException, IllegalStateException {
        needNotBelowZero(k);
        needRun();
        return router.clashingPlace(k);
    }

    public int history(int layer, long x, long y) throws IndexOutOfBoundsException, IllegalStateException {
        needPlace(layer, x, y);
        needRun();
        return router.past[grid.placeAt(layer, (int) x, (int) y)];
    }

    public int count(int what) throws IndexOutOfBoundsException {
        needWhat(what, 6);
        switch (what) {
            case 0:
                return design.nets;
            case 1:
                return design.pins;
            case 2:
                return grid.barredCount;
            case 3:
                return told ? router.roundsMade : 0;
            case 4:
                return told ? router.freeWays : 0;
            default:
                return told ? router.tearingWays : 0;
        }
    }

    private int[] rulesOf(int kind) {
        switch (kind) {
            case KIND_SPACE:
                return grid.space;
            case KIND_JOG:
                return grid.jog;
            case KIND_VIA:
                return grid.via;
            default:
                throw new IllegalArgumentException("there is no such kind of rule");
        }
    }

    private void needLayer(int layer) {
        if (layer < 0 || layer >= grid.layers) {
            throw new IndexOutOfBoundsException("there is no such layer");
        }
    }

    private void needPlace(int layer, long x, long y) {
        needLayer(layer);
        if (x < 0 || x >= grid.width || y < 0 || y >= grid.height) {
            throw new IndexOutOfBoundsException("there is no such place");
        }
    }

    private void needNet(int net) {
        if (net < 0 || net >= design.nets) {
            throw new IndexOutOfBoundsException("there is no such net");
        }
    }

    private void needPin(int pin) {
        if (pin < 0 || pin >= design.pins) {
            throw new IndexOutOfBoundsException("there is no such pin");
        }
    }

    private void needWhat(int what, int kinds) {
        if (what < 0 || what >= kinds) {
            throw new IndexOutOfBoundsException("there is no such what");
        }
    }

    private void needNotBelowZero(int k) {
        if (k < 0) {
            throw new IndexOutOfBoundsException("k is below 0");
        }
    }

    private void needRun() {
        if (!told) {
            throw new IllegalStateException("there was no run, or something was changed since");
        }
    }

    /** Sets of nets are kept as bits of an int, net 0 the lowest. */
    private static boolean isIn(int nets, int net) {
        return (nets >> net & 1) != 0;
    }

    /** The places, numbered in their order, with what is barred and what steps cost. */
    private static final class Grid {
        static final int DIRECTIONS = 6;

        final int layers;
        final int width;
        final int height;
        final int layerSize;
        final int size;
        /** Coordinates are looked up, so that no place needs a division. */
        final int[] layerOf;
        final int[] xOf;
        final int[] yOf;
        final int[] space = new int[MOST_LAYERS];
        final int[] jog = new int[MOST_LAYERS];
        final int[] via = new int[MOST_LAYERS];
        final boolean[] barred;
        int barredCount;

        Grid(int layers, int width, int height) {
            this.layers = layers;
            this.width = width;
            this.height = height;
            layerSize = width * height;
            size = layers * layerSize;
            layerOf = new int[size];
            xOf = new int[size];
            yOf = new int[size];
            barred = new boolean[size];
            Arrays.fill(jog, 3);
            Arrays.fill(via, 5);
            numberPlaces();
        }

        private void numberPlaces() {
            int place = 0;
            for (int layer = 0; layer < layers; layer++) {
                for (int y = 0; y < height; y++) {
                    for (int x = 0; x < width; x++) {
                        layerOf[place] = layer;
                        xOf[place] = x;
                        yOf[place] = y;
                        place++;
                    }
                }
            }
        }

        int placeAt(int layer, int x, int y) {
            return layer * layerSize + y * width + x;
        }

        /** Bars a place: whether it was not barred before. */
        boolean close(int place) {
            if (barred[place]) {
                return false;
            }
            barred[place] = true;
            barredCount++;
            return true;
        }

        /** The place one step away, or NONE; directions are numbered as the document prefers them on the way back. */
        int beside(int place, int direction) {
            switch (direction) {
                case 0:
                    return xOf[place] > 0 ? place - 1 : NONE;
                case 1:
                    return xOf[place] < width - 1 ? place + 1 : NONE;
                case 2:
                    return yOf[place] > 0 ? place - width : NONE;
                case 3:
                    return yOf[place] < height - 1 ? place + width : NONE;
                case 4:
                    return layerOf[place] > 0 ? place - layerSize : NONE;
                case 5:
                    return layerOf[place] < layers - 1 ? place + layerSize : NONE;
                default:
                    return NONE;
            }
        }

        /** What the step between two places beside each other costs, either way. */
        int stepCost(int from, int to) {
            int layer = layerOf[from];
            if (layerOf[to] != layer) {
                return via[Math.min(layer, layerOf[to])];
            }
            boolean alongX = yOf[from] == yOf[to];
            boolean tracksAlongX = layer % 2 == 0;
            return alongX == tracksAlongX ? 1 : 1 + jog[layer];
        }
    }

    /** What was asked for: nets, their pins, and the access places of these. */
    private static final class Design {
        int nets;
        int shielded;
        int pins;
        final int[] netOfPin = new int[MOST_PINS];
        final int[] pinCount = new int[MOST_NETS];
        final int[] accessCount = new int[MOST_PINS];
        final int[] accessPlaces = new int[MOST_PINS * MOST_ACCESS];

        int addNet() {
            nets++;
            return nets - 1;
        }

        int addPin(int net) {
            netOfPin[pins] = net;
            pinCount[net]++;
            pins++;
            return pins - 1;
        }

        int accessPlace(int pin, int k) {
            return accessPlaces[pin * MOST_ACCESS + k];
        }

        boolean hasAccess(int pin, int place) {
            for (int k = 0; k < accessCount[pin]; k++) {
                if (accessPlace(pin, k) == place) {
                    return true;
                }
            }
            return false;
        }

        void addAccess(int pin, int place) {
            accessPlaces[pin * MOST_ACCESS + accessCount[pin]] = place;
            accessCount[pin]++;
        }
    }

    /**
     * Which nets stand at each place and which are near it. The surroundings are kept, and not looked for,
     * since a search asks for clashes far more often than places are added.
     */
    private static final class Stand {
        final Grid grid;
        final int[] here;
        /** Nets within the layer's space of a place: these clash with every other net there. */
        final int[] near;
        /** Nets within one more than the space: these clash if one of both is shielded. */
        final int[] far;

        Stand(Grid grid) {
            this.grid = grid;
            here = new int[grid.size];
            near = new int[grid.size];
            far = new int[grid.size];
        }

        void clear() {
            Arrays.fill(here, 0);
            Arrays.fill(near, 0);
            Arrays.fill(far, 0);
        }

        void add(int net, int place) {
            int space = grid.space[grid.layerOf[place]];
            here[place] |= 1 << net;
            mark(near, net, place, space);
            mark(far, net, place, space + 1);
        }

        private void mark(int[] sets, int net, int place, int reach) {
            int layer = grid.layerOf[place];
            int x0 = Math.max(0, grid.xOf[place] - reach);
            int x1 = Math.min(grid.width - 1, grid.xOf[place] + reach);
            int y0 = Math.max(0, grid.yOf[place] - reach);
            int y1 = Math.min(grid.height - 1, grid.yOf[place] + reach);
            for (int y = y0; y <= y1; y++) {
                for (int x = x0; x <= x1; x++) {
                    sets[grid.placeAt(layer, x, y)] |= 1 << net;
                }
            }
        }

        void drop(int net) {
            int others = ~(1 << net);
            for (int place = 0; place < grid.size; place++) {
                here[place] &= others;
                near[place] &= others;
                far[place] &= others;
            }
        }

        /** The nets with which a net clashes, or would clash, at a place. */
        int clashing(int net, int place, int shielded) {
            int self = 1 << net;
            int reaching = (shielded & self) != 0 ? far[place] : near[place] | far[place] & shielded;
            return reaching & ~self;
        }
    }

    /** Places that a search has reached and not yet left, as a heap: the least cost first, then the order. */
    private static final class Front {
        static final int UNREACHED = 1_000_000_000;

        final int[] cost;
        final int[] heap;
        /** Where in the heap a place is, or NONE. */
        final int[] spot;
        int length;

        Front(int size) {
            cost = new int[size];
            heap = new int[size];
            spot = new int[size];
        }

        void clear() {
            Arrays.fill(cost, UNREACHED);
            Arrays.fill(spot, NONE);
            length = 0;
        }

        /** A place is reached at a cost, if this is less than before. */
        void offer(int place, int newCost) {
            if (newCost >= cost[place]) {
                return;
            }
            int at = spot[place] == NONE ? length : spot[place];
            if (at >= heap.length) {
                return;
            }
            if (at == length) {
                length++;
            }
            cost[place] = newCost;
            while (at > 0 && isBefore(place, heap[(at - 1) / 2])) {
                put(heap[(at - 1) / 2], at);
                at = (at - 1) / 2;
            }
            put(place, at);
        }

        /** Takes the first place out; NONE if there is none. */
        int take() {
            if (length == 0) {
                return NONE;
            }
            int first = heap[0];
            spot[first] = NONE;
            length--;
            if (length > 0) {
                sink(heap[length]);
            }
            return first;
        }

        private void sink(int place) {
            int at = 0;
            while (2 * at + 1 < length) {
                int child = 2 * at + 1;
                if (child + 1 < length && isBefore(heap[child + 1], heap[child])) {
                    child++;
                }
                if (!isBefore(heap[child], place)) {
                    break;
                }
                put(heap[child], at);
                at = child;
            }
            put(place, at);
        }

        private boolean isBefore(int a, int b) {
            return cost[a] != cost[b] ? cost[a] < cost[b] : a < b;
        }

        private void put(int place, int at) {
            heap[at] = place;
            spot[place] = at;
        }
    }

    /** A run, and what the latest one found. */
    private static final class Router {
        static final int TEAR_COST = 20;
        static final int TEAR_HISTORY = 5;

        final Grid grid;
        final Design design;
        final Stand pinStand;
        /** Routes, and the tree of the net that is being routed. */
        final Stand routeStand;
        final Front front;
        /** The chosen access place of each pin, or NONE. */
        final int[] choice = new int[MOST_PINS];
        final int[] past;
        /** Nets whose route steps from a place to the layer above. */
        final int[] vias;
        /** The latest way found, from its end back. */
        final int[] way;
        int wayLength;
        int closedNets;
        int joinedNets;
        /** Nets without a way when they were routed last. */
        int failedNets;
        int roundsMade;
        int freeWays;
        int tearingWays;

        Router(Grid grid, Design design) {
            this.grid = grid;
            this.design = design;
            pinStand = new Stand(grid);
            routeStand = new Stand(grid);
            front = new Front(grid.size);
            past = new int[grid.size];
            vias = new int[grid.size];
            way = new int[grid.size];
        }

        /** All as it is before the first round. */
        void begin() {
            pinStand.clear();
            routeStand.clear();
            Arrays.fill(past, 0);
            Arrays.fill(vias, 0);
            closedNets = 0;
            joinedNets = 0;
            failedNets = 0;
            roundsMade = 0;
            freeWays = 0;
            tearingWays = 0;
            choosePlaces();
            for (int net = 0; net < design.nets; net++) {
                if (design.pinCount[net] <= 1 && !isIn(closedNets, net)) {
                    joinedNets |= 1 << net;
                }
            }
        }

        private void choosePlaces() {
            for (int pin = 0; pin < design.pins; pin++) {
                int net = design.netOfPin[pin];
                choice[pin] = firstFit(pin, net);
                if (choice[pin] == NONE) {
                    closedNets |= 1 << net;
                } else {
                    pinStand.add(net, design.accessPlace(pin, choice[pin]));
                }
            }
        }

        private int firstFit(int pin, int net) {
            for (int k = 0; k < design.accessCount[pin]; k++) {
                int place = design.accessPlace(pin, k);
                if (!grid.barred[place] && pinStand.clashing(net, place, design.shielded) == 0) {
                    return k;
                }
            }
            return NONE;
        }

        void makeRounds(int rounds) {
            for (int round = 0; round < rounds && someWait(); round++) {
                roundsMade++;
                for (int net = 0; net < design.nets; net++) {
                    if (waits(net)) {
                        route(net);
                    }
                }
            }
        }

        private boolean waits(int net) {
            return !isIn(closedNets | joinedNets, net);
        }

        private boolean someWait() {
            return Integer.bitCount(closedNets | joinedNets) < design.nets;
        }

        private void route(int net) {
            // A net that waits has no route yet: outside of it are all its pins, and so the first one.
            int start = placeOutside(net);
            if (start != NONE) {
                routeStand.add(net, start);
            }
            for (int k = 0; k < MOST_PINS && placeOutside(net) != NONE; k++) {
                int end = findEnd(net, false);
                boolean tearing = end == NONE;
                if (tearing) {
                    end = findEnd(net, true);
                }
                if (end == NONE) {
                    dropRoute(net);
                    failedNets |= 1 << net;
                    return;
                }
                // The costs hold for the routes as they are: the way is traced before any is torn up.
                traceBack(net, end, tearing);
                if (tearing) {
                    tearUp(net);
                }
                layWay(net);
                countWay(tearing);
            }
            failedNets &= ~(1 << net);
            joinedNets |= 1 << net;
        }

        private void countWay(boolean tearing) {
            if (tearing) {
                tearingWays++;
            } else {
                freeWays++;
            }
        }

        /** The chosen place of the net's first pin that is not in its tree, or NONE. */
        private int placeOutside(int net) {
            for (int pin = 0; pin < design.pins; pin++) {
                if (design.netOfPin[pin] == net && choice[pin] != NONE) {
                    int place = design.accessPlace(pin, choice[pin]);
                    if (!isIn(routeStand.here[place], net)) {
                        return place;
                    }
                }
            }
            return NONE;
        }

        /**
         * The end of the way to take, or NONE. Steps cost 1 at least, so every place of some cost is in the front
         * before the first of that cost is taken: of several ends of the least cost the first in the order comes.
         */
        private int findEnd(int net, boolean tearing) {
            front.clear();
            for (int place = 0; place < grid.size; place++) {
                if (isIn(routeStand.here[place], net)) {
                    front.offer(place, 0);
                }
            }
            for (int taken = 0; taken < grid.size; taken++) {
                int place = front.take();
                if (place == NONE || isGoal(net, place)) {
                    return place;
                }
                offerAround(net, place, tearing);
            }
            return NONE;
        }

        private boolean isGoal(int net, int place) {
            return isIn(pinStand.here[place] & ~routeStand.here[place], net);
        }

        private void offerAround(int net, int place, boolean tearing) {
            int cost = front.cost[place];
            for (int direction = 0; direction < Grid.DIRECTIONS; direction++) {
                int next = grid.beside(place, direction);
                if (next != NONE && front.cost[next] > cost) {
                    int entry = entryCost(net, next, tearing);
                    if (entry != NONE) {
                        front.offer(next, cost + grid.stepCost(place, next) + entry);
                    }
                }
            }
        }

        /** What stepping onto a place costs beside the step; NONE if the net may not go there. */
        private int entryCost(int net, int place, boolean tearing) {
            if (grid.barred[place] || pinStand.clashing(net, place, design.shielded) != 0) {
                return NONE;
            }
            if (routeStand.clashing(net, place, design.shielded) == 0) {
                return past[place];
            }
            return tearing ? past[place] + TEAR_COST : NONE;
        }

        private void traceBack(int net, int end, boolean tearing) {
            wayLength = 0;
            int place = end;
            while (wayLength < way.length && place != NONE) {
                way[wayLength] = place;
                wayLength++;
                // Only places of the tree cost nothing: there the way begins.
                place = front.cost[place] == 0 ? NONE : placeBefore(net, place, tearing);
            }
        }

        private int placeBefore(int net, int place, boolean tearing) {
            int rest = front.cost[place] - entryCost(net, place, tearing);
            for (int direction = 0; direction < Grid.DIRECTIONS; direction++) {
                int before = grid.beside(place, direction);
                if (before != NONE && front.cost[before] + grid.stepCost(before, place) == rest) {
                    return before;
                }
            }
            return NONE;
        }

        private void tearUp(int net) {
            int torn = 0;
            for (int k = 0; k < wayLength; k++) {
                int hit = routeStand.clashing(net, way[k], design.shielded);
                if (hit != 0) {
                    past[way[k]] += TEAR_HISTORY;
                    torn |= hit;
                }
            }
            for (int other = 0; other < design.nets; other++) {
                if (isIn(torn, other)) {
                    dropRoute(other);
                }
            }
            joinedNets &= ~torn;
        }

        private void dropRoute(int net) {
            routeStand.drop(net);
            for (int place = 0; place < grid.size; place++) {
                vias[place] &= ~(1 << net);
            }
        }

        private void layWay(int net) {
            for (int k = 0; k < wayLength; k++) {
                routeStand.add(net, way[k]);
                if (k > 0 && grid.layerOf[way[k]] != grid.layerOf[way[k - 1]]) {
                    vias[Math.min(way[k], way[k - 1])] |= 1 << net;
                }
            }
        }

        /** The k-th place at which a net stands, or NONE. */
        int standingAt(int net, int k) {
            int left = k;
            for (int place = 0; place < grid.size && left >= 0; place++) {
                if (isIn(pinStand.here[place] | routeStand.here[place], net)) {
                    if (left == 0) {
                        return place;
                    }
                    left--;
                }
            }
            return NONE;
        }

        /** The k-th place at which some net clashes with another one, or NONE. */
        int clashingPlace(int k) {
            int left = k;
            for (int place = 0; place < grid.size; place++) {
                if (hasClash(place)) {
                    if (left == 0) {
                        return place;
                    }
                    left--;
                }
            }
            return NONE;
        }

        private boolean hasClash(int place) {
            int standing = pinStand.here[place] | routeStand.here[place];
            for (int net = 0; net < design.nets; net++) {
                if (isIn(standing, net)
                        && (pinStand.clashing(net, place, design.shielded)
                            | routeStand.clashing(net, place, design.shielded)) != 0) {
                    return true;
                }
            }
            return false;
        }

        /** The k-th open net, or NONE. */
        int openNet(int k) {
            int left = k;
            for (int net = 0; net < design.nets; net++) {
                if (!isIn(joinedNets, net)) {
                    if (left == 0) {
                        return net;
                    }
                    left--;
                }
            }
            return NONE;
        }

        int whyOpen(int net) {
            if (isIn(closedNets, net)) {
                return WHY_CLOSED;
            }
            return isIn(failedNets, net) ? WHY_NO_WAY : WHY_TORN;
        }
    }
}
