import java.util.ArrayList;
import java.util.List;
import java.util.function.Function;

/**
 * Each exception that a method's line names: the call that throws it has changed nothing, nor ended what a run told.
 * And the calls that answer false, or only ask: these change nothing either; all others end what a run told.
 */
public final class RefusedTest {
    private static final Checks CHECKS = new Checks();
    private static final String INDEX = "throws.IndexOutOfBoundsException";
    private static final String STATE = "throws.IllegalStateException";
    private static final String ARGUMENT = "throws.IllegalArgumentException";

    private record Case(String name, Object due, Function<TrackRoutes, Object> call) {
    }

    public static void main(String[] args) {
        for (Case one : refusedAfterARun()) {
            CHECKS.test(one.name, () -> changesNothing(one, true));
            CHECKS.test(one.name, () -> changesNothing(one, false));
        }
        for (Case one : refusedWithoutARun()) {
            CHECKS.test(one.name, () -> changesNothing(one, false));
        }
        for (Case one : answersOnly()) {
            CHECKS.test(one.name, () -> changesNothing(one, true));
        }
        for (Case one : changes()) {
            CHECKS.test(one.name, () -> endsTheRun(one));
        }
        CHECKS.test("many at once", RefusedTest::manyAtOnce);
        CHECKS.end("RefusedTest");
    }

    /** What full() tells after three rounds, and holds besides, if nothing has come between. */
    private static String untouched() {
        TrackRoutes r = Scenes.full();
        r.run(3);
        return Scenes.told(r) + " " + Scenes.hidden(r);
    }

    private static final String UNTOUCHED = untouched();

    private static void changesNothing(Case one, boolean afterRun) {
        String when = one.name + (afterRun ? " after a run" : " without a run");
        TrackRoutes still = Scenes.full();
        if (afterRun) {
            still.run(3);
        }
        CHECKS.dueCall(when, () -> one.call.apply(still), one.due);
        if (!afterRun) {
            CHECKS.illegalState(when + ": there was none", () -> still.joined(0));
            still.run(3);
        }
        CHECKS.due(when + ": nothing changed", Scenes.told(still) + " " + Scenes.hidden(still), UNTOUCHED);
        TrackRoutes anew = Scenes.full();
        if (afterRun) {
            anew.run(3);
        }
        Checks.answer(() -> one.call.apply(anew));
        anew.run(3);
        CHECKS.due(when + ": and a run finds the same", Scenes.told(anew) + " " + Scenes.hidden(anew), UNTOUCHED);
    }

    private static void endsTheRun(Case one) {
        TrackRoutes r = Scenes.cross();
        r.pin(r.net());
        r.run(3);
        CHECKS.dueCall(one.name, () -> one.call.apply(r), one.due);
        CHECKS.illegalState(one.name + ": piece", () -> r.piece(0, 0, 0));
        CHECKS.illegalState(one.name + ": chosen", () -> r.chosen(0));
        CHECKS.illegalState(one.name + ": open", () -> r.open(0, 0));
        CHECKS.illegalState(one.name + ": joined", () -> r.joined(0));
        CHECKS.illegalState(one.name + ": broken", () -> r.broken(0));
        CHECKS.illegalState(one.name + ": history", () -> r.history(0, 0, 0));
        CHECKS.due(one.name + ": count", r.count(3) + " " + r.count(4) + " " + r.count(5), "0 0 0");
        CHECKS.illegalArgument(one.name + ": a refused run is none", () -> r.run(9));
        CHECKS.illegalState(one.name + ": none", () -> r.joined(0));
        r.run(0);
        CHECKS.dueCall(one.name + ": told again", () -> r.joined(0), false);
    }

    private static List<Case> changes() {
        List<Case> all = new ArrayList<>();
        all.add(new Case("a net", 3, r -> r.net()));
        all.add(new Case("a pin", 5, r -> r.pin(2)));
        all.add(new Case("an access place", true, r -> r.access(4, 0, 0, 0)));
        all.add(new Case("a bar", true, r -> r.bar(0, 0, 0, 0, 0)));
        all.add(new Case("a shield", true, r -> r.shield(2)));
        all.add(new Case("a shield on and off", false, r -> r.shield(2) && r.shield(2)));
        for (int k = 0; k < 3; k++) {
            int kind = k;
            all.add(new Case("a rule of kind " + kind, true, r -> r.rule(kind, 0, 1)));
            all.add(new Case("a rule and back, kind " + kind, true,
                r -> r.rule(kind, 0, 2) && r.rule(kind, 0, kind == 0 ? 0 : kind == 1 ? 3 : 5)));
        }
        return all;
    }

    /** Calls on full() that throw, be there a run or none. */
    private static List<Case> refusedAfterARun() {
        List<Case> all = new ArrayList<>();
        refusedRules(all);
        refusedParts(all);
        refusedAccesses(all);
        refusedBars(all);
        for (int rounds : Beyond.ints(9)) {
            all.add(new Case("run " + rounds, ARGUMENT, r -> r.run(rounds)));
        }
        refusedQuestions(all);
        return all;
    }

    private static void refusedRules(List<Case> all) {
        for (int layer : Beyond.ints(2)) {
            all.add(new Case("rule of layer " + layer, INDEX, r -> r.rule(0, layer, 2)));
            all.add(new Case("rule of layer " + layer + ", kind and number", INDEX, r -> r.rule(3, layer, 51)));
        }
        for (int kind : Beyond.ints(3)) {
            all.add(new Case("rule of kind " + kind, ARGUMENT, r -> r.rule(kind, 1, 2)));
        }
        for (int k = 0; k < 3; k++) {
            int kind = k;
            for (long v : Beyond.longs(kind == 2 ? 1 : 0, kind == 0 ? 2 : 50)) {
                all.add(new Case("rule " + kind + " of " + v, ARGUMENT, r -> r.rule(kind, 0, v)));
            }
        }
    }

    private static void refusedParts(List<Case> all) {
        all.add(new Case("one net more", STATE, r -> r.net()));
        all.add(new Case("one pin more", STATE, r -> r.pin(0)));
        for (int net : Beyond.ints(16)) {
            all.add(new Case("pin of net " + net, INDEX, r -> r.pin(net)));
            all.add(new Case("shield of net " + net, INDEX, r -> r.shield(net)));
        }
    }

    private static void refusedAccesses(List<Case> all) {
        all.add(new Case("one access place more", STATE, r -> r.access(39, 0, 4, 0)));
        all.add(new Case("an access place again, with 4", STATE, r -> r.access(39, 0, 3, 0)));
        for (int pin : Beyond.ints(40)) {
            all.add(new Case("access of pin " + pin, INDEX, r -> r.access(pin, 0, 0, 0)));
        }
        for (int pin = 38; pin < 40; pin++) {
            int of = pin;
            for (int layer : Beyond.ints(2)) {
                all.add(new Case("access " + of + ", layer " + layer, INDEX, r -> r.access(of, layer, 0, 0)));
            }
            for (long x : Beyond.longs(0, 4)) {
                all.add(new Case("access " + of + ", x " + x, INDEX, r -> r.access(of, 0, x, 0)));
            }
            for (long y : Beyond.longs(0, 2)) {
                all.add(new Case("access " + of + ", y " + y, INDEX, r -> r.access(of, 0, 0, y)));
            }
        }
    }

    private static void refusedBars(List<Case> all) {
        for (int layer : Beyond.ints(2)) {
            all.add(new Case("bar of layer " + layer, INDEX, r -> r.bar(layer, 0, 0, 0, 0)));
            all.add(new Case("bar of layer " + layer + " and places", INDEX, r -> r.bar(layer, 5, 3, -1, -1)));
        }
        for (long x : Beyond.longs(0, 4)) {
            all.add(new Case("bar from x " + x, ARGUMENT, r -> r.bar(0, x, 0, 4, 2)));
            all.add(new Case("bar to x " + x, ARGUMENT, r -> r.bar(0, 0, 0, x, 2)));
        }
        for (long y : Beyond.longs(0, 2)) {
            all.add(new Case("bar from y " + y, ARGUMENT, r -> r.bar(0, 0, y, 4, 2)));
            all.add(new Case("bar to y " + y, ARGUMENT, r -> r.bar(0, 0, 0, 4, y)));
        }
        all.add(new Case("bar with x0 above x1", ARGUMENT, r -> r.bar(0, 4, 0, 3, 2)));
        all.add(new Case("bar with y0 above y1", ARGUMENT, r -> r.bar(0, 0, 2, 4, 1)));
    }

    private static void refusedQuestions(List<Case> all) {
        for (int net : Beyond.ints(16)) {
            all.add(new Case("piece of net " + net, INDEX, r -> r.piece(net, 0, 0)));
            all.add(new Case("joined net " + net, INDEX, r -> r.joined(net)));
        }
        for (int what : Beyond.ints(4)) {
            all.add(new Case("piece, what " + what, INDEX, r -> r.piece(0, 0, what)));
        }
        for (int pin : Beyond.ints(40)) {
            all.add(new Case("chosen of pin " + pin, INDEX, r -> r.chosen(pin)));
        }
        for (int what : Beyond.ints(2)) {
            all.add(new Case("open, what " + what, INDEX, r -> r.open(0, what)));
        }
        all.add(new Case("open, k below 0", INDEX, r -> r.open(-1, 0)));
        all.add(new Case("open, least k", INDEX, r -> r.open(Integer.MIN_VALUE, 1)));
        all.add(new Case("broken, k below 0", INDEX, r -> r.broken(-1)));
        all.add(new Case("broken, least k", INDEX, r -> r.broken(Integer.MIN_VALUE)));
        all.add(new Case("history, layer", INDEX, r -> r.history(2, 0, 0)));
        all.add(new Case("history, x", INDEX, r -> r.history(0, 5, 0)));
        all.add(new Case("history, y", INDEX, r -> r.history(0, 0, 3)));
        for (int what : Beyond.ints(6)) {
            all.add(new Case("count, what " + what, INDEX, r -> r.count(what)));
        }
    }

    private static List<Case> refusedWithoutARun() {
        List<Case> all = new ArrayList<>();
        all.add(new Case("piece", STATE, r -> r.piece(0, 0, 0)));
        all.add(new Case("piece, k", STATE, r -> r.piece(0, -1, 3)));
        all.add(new Case("chosen", STATE, r -> r.chosen(0)));
        all.add(new Case("open", STATE, r -> r.open(0, 0)));
        all.add(new Case("open, why", STATE, r -> r.open(15, 1)));
        all.add(new Case("joined", STATE, r -> r.joined(0)));
        all.add(new Case("broken", STATE, r -> r.broken(0)));
        all.add(new Case("history", STATE, r -> r.history(1, 4, 2)));
        return all;
    }

    /** Calls on full() after a run that answer, and change nothing. */
    private static List<Case> answersOnly() {
        List<Case> all = new ArrayList<>();
        all.add(new Case("a rule as at first", false, r -> r.rule(1, 0, 3)));
        all.add(new Case("a rule as before", false, r -> r.rule(0, 1, 1)));
        all.add(new Case("an access place that it has", false, r -> r.access(38, 0, 4, 2)));
        all.add(new Case("a bar of barred places", false, r -> r.bar(1, 0, 0, 4, 2)));
        all.add(new Case("a bar of one barred place", false, r -> r.bar(1, 4, 2, 4, 2)));
        all.add(new Case("piece", 0, r -> r.piece(0, 0, 0)));
        all.add(new Case("piece, k", INDEX, r -> r.piece(0, 1000, 0)));
        all.add(new Case("piece, k below 0", INDEX, r -> r.piece(0, -1, 0)));
        all.add(new Case("chosen", 0, r -> r.chosen(0)));
        all.add(new Case("open", TrackRoutes.NONE, r -> r.open(16, 0)));
        all.add(new Case("joined", true, r -> r.joined(7)));
        all.add(new Case("broken", TrackRoutes.NONE, r -> r.broken(0)));
        all.add(new Case("history", 0, r -> r.history(1, 4, 2)));
        all.add(new Case("count", 16, r -> r.count(0)));
        all.add(new Case("the same run", 2, r -> r.run(3)));
        return all;
    }

    /** Refused calls do not add up either. */
    private static void manyAtOnce() {
        TrackRoutes r = Scenes.full();
        r.run(3);
        for (Case one : refusedAfterARun()) {
            CHECKS.dueCall(one.name + " among many", () -> one.call.apply(r), one.due);
        }
        CHECKS.due("nothing changed by them all", Scenes.told(r) + " " + Scenes.hidden(r), UNTOUCHED);
    }
}
