/**
 * Promises 2 to 24, the "Returns" lines, and the term ERRORS: each error and NONE of each method; where several
 * apply, the first of the line; such a call changes nothing (Told.refused compares with a twin without the call).
 */
public final class EdgesOfErrorsTest {
    private static final int UNKNOWN = GlassRacks.UNKNOWN;
    private static final int BAD_VALUE = GlassRacks.BAD_VALUE;
    private static final int FULL = GlassRacks.FULL;
    private static final int NOT_POSSIBLE = GlassRacks.NOT_POSSIBLE;
    private static final int NONE = GlassRacks.NONE;

    private EdgesOfErrorsTest() {
    }

    public static void main(String[] args) {
        constants();
        set();
        buy();
        buyOrderOfChecks();
        move();
        scrap();
        order();
        orderOrderOfChecks();
        cancel();
        cut();
        cutOrderOfChecks();
        plan();
        pass();
        perform();
        type();
        undo();
        restore();
        sheet();
        at();
        ordered();
        would();
        wouldOrderOfChecks();
        choice();
        next();
        wouldPlan();
        count();
        Due.finish();
    }

    private static void busy(String name, Scenes.Call call, int want) {
        Told.refused(name, Scenes::busy, call, want);
    }

    private static void fresh(String name, Scenes.Call call, int want) {
        Told.refused(name + " on a new object", GlassRacks::new, call, want);
    }

    private static void constants() {
        Due.about("errors are reported by the constants");
        Due.due("UNKNOWN", UNKNOWN, -1);
        Due.due("BAD_VALUE", BAD_VALUE, -2);
        Due.due("FULL", FULL, -3);
        Due.due("NOT_POSSIBLE", NOT_POSSIBLE, -4);
        Due.due("NONE", NONE, -5);
    }

    private static void set() {
        Due.about("set: BAD_VALUE; NONE if it is so already");
        busy("set(-1, 1)", x -> x.set(-1, 1), BAD_VALUE);
        busy("set(5, 1)", x -> x.set(5, 1), BAD_VALUE);
        int[] least = {0, 1, 0, 0, 0};
        int[] greatest = {5, 99, 1, 50, 1};
        int[] there = {2, 8, 1, 4, 1};
        int[] first = {1, 10, 0, 0, 1};
        for (int i = 0; i < 5; i++) {
            int what = i;
            busy("set(" + what + ") too small", x -> x.set(what, least[what] - 1), BAD_VALUE);
            busy("set(" + what + ") too great", x -> x.set(what, greatest[what] + 1), BAD_VALUE);
            busy("set(" + what + ") to what it is", x -> x.set(what, there[what]), NONE);
            fresh("set(" + what + ") to what it is at first", x -> x.set(what, first[what]), NONE);
        }
        GlassRacks x = new GlassRacks();
        x.set(0, 3);
        x.undo();
        Due.due("set to what it is behind undo", x.set(0, 1), NONE);
        Due.due("set to what it was before undo", x.set(0, 3), 1);
    }

    private static void buy() {
        Due.about("buy: UNKNOWN (rack or sort); BAD_VALUE; FULL if the rack has 8 sheets, or there have been 200");
        busy("buy, rack -1", x -> x.buy(-1, 0, 5, 5), UNKNOWN);
        busy("buy, rack 4", x -> x.buy(4, 0, 5, 5), UNKNOWN);
        busy("buy, sort -1", x -> x.buy(1, -1, 5, 5), UNKNOWN);
        busy("buy, sort 3", x -> x.buy(1, 3, 5, 5), UNKNOWN);
        busy("buy, width 0", x -> x.buy(1, 0, 0, 5), BAD_VALUE);
        busy("buy, width 100", x -> x.buy(1, 0, 100, 5), BAD_VALUE);
        busy("buy, height 0", x -> x.buy(1, 0, 5, 0), BAD_VALUE);
        busy("buy, height 100", x -> x.buy(1, 0, 5, 100), BAD_VALUE);
        busy("buy into 8 sheets", x -> x.buy(0, 0, 5, 5), FULL);
        Told.refused("buy behind 200", () -> Scenes.sheetsEver(200), x -> x.buy(2, 0, 5, 5), FULL);
    }

    private static void buyOrderOfChecks() {
        Due.about("buy: the order of the line is the order of the checks");
        busy("rack and width", x -> x.buy(4, 0, 0, 5), UNKNOWN);
        busy("rack and height", x -> x.buy(-1, 0, 5, 100), UNKNOWN);
        busy("rack and sort and sides", x -> x.buy(4, 3, 0, 100), UNKNOWN);
        busy("sort and width", x -> x.buy(1, 3, 100, 5), UNKNOWN);
        busy("sort and height", x -> x.buy(1, -1, 5, 0), UNKNOWN);
        busy("sort and a full rack", x -> x.buy(0, 3, 5, 5), UNKNOWN);
        busy("width and a full rack", x -> x.buy(0, 0, 0, 5), BAD_VALUE);
        busy("height and a full rack", x -> x.buy(0, 0, 5, 100), BAD_VALUE);
        busy("sort, width and a full rack", x -> x.buy(0, -1, 0, 5), UNKNOWN);
        GlassRacks x = Scenes.sheetsEver(200);
        Due.due("rack and 200 sheets", x.buy(4, 0, 5, 5), UNKNOWN);
        Due.due("sort and 200 sheets", x.buy(0, 3, 5, 5), UNKNOWN);
        Due.due("width and 200 sheets", x.buy(0, 0, 100, 5), BAD_VALUE);
        Due.due("height and 200 sheets", x.buy(0, 0, 5, 0), BAD_VALUE);
        Due.due("200 sheets alone", x.buy(0, 0, 5, 5), FULL);
    }

    private static void move() {
        Due.about("move: UNKNOWN (sheet or rack); FULL if it is another rack, which has 8 sheets");
        busy("move, sheet -1", x -> x.move(-1, 1), UNKNOWN);
        busy("move of a sheet that was cut", x -> x.move(9, 1), UNKNOWN);
        busy("move of one behind the last", x -> x.move(12, 1), UNKNOWN);
        busy("move, rack -1", x -> x.move(0, -1), UNKNOWN);
        busy("move, rack 4", x -> x.move(0, 4), UNKNOWN);
        busy("move into 8 sheets", x -> x.move(8, 0), FULL);
        busy("sheet and a full rack", x -> x.move(9, 0), UNKNOWN);
        busy("sheet and rack", x -> x.move(9, 4), UNKNOWN);
        Told.act("move within 8 sheets", Scenes::busy, x -> x.move(0, 0));
        fresh("move", x -> x.move(0, 0), UNKNOWN);
    }

    private static void scrap() {
        Due.about("scrap: UNKNOWN");
        busy("scrap -1", x -> x.scrap(-1), UNKNOWN);
        busy("scrap of a sheet that was cut", x -> x.scrap(9), UNKNOWN);
        busy("scrap of one behind the last", x -> x.scrap(12), UNKNOWN);
        fresh("scrap", x -> x.scrap(0), UNKNOWN);
    }

    private static GlassRacks twelveOrders() {
        GlassRacks x = Scenes.busy();
        while (x.count(9) < 12) {
            x.order(1, 1, 1, 9);
        }
        return x;
    }

    private static void order() {
        Due.about("order: UNKNOWN (sort); BAD_VALUE; FULL if there have been 12");
        busy("order, sort -1", x -> x.order(-1, 5, 5, 5), UNKNOWN);
        busy("order, sort 3", x -> x.order(3, 5, 5, 5), UNKNOWN);
        busy("order, width 0", x -> x.order(0, 0, 5, 5), BAD_VALUE);
        busy("order, width 100", x -> x.order(0, 100, 5, 5), BAD_VALUE);
        busy("order, height 0", x -> x.order(0, 5, 0, 5), BAD_VALUE);
        busy("order, height 100", x -> x.order(0, 5, 100, 5), BAD_VALUE);
        busy("order, day -1", x -> x.order(0, 5, 5, -1), BAD_VALUE);
        busy("order, day 1000", x -> x.order(0, 5, 5, 1000), BAD_VALUE);
        Told.refused("the thirteenth order", EdgesOfErrorsTest::twelveOrders, x -> x.order(0, 5, 5, 5), FULL);
    }

    private static void orderOrderOfChecks() {
        Due.about("order: the order of the line is the order of the checks");
        busy("sort and width", x -> x.order(3, 0, 5, 5), UNKNOWN);
        busy("sort and height", x -> x.order(-1, 5, 100, 5), UNKNOWN);
        busy("sort and day", x -> x.order(3, 5, 5, 1000), UNKNOWN);
        GlassRacks x = twelveOrders();
        Due.due("sort and 12 orders", x.order(3, 5, 5, 5), UNKNOWN);
        Due.due("sort, width and 12 orders", x.order(-1, 0, 5, 5), UNKNOWN);
        Due.due("width and 12 orders", x.order(0, 100, 5, 5), BAD_VALUE);
        Due.due("height and 12 orders", x.order(0, 5, 0, 5), BAD_VALUE);
        Due.due("day and 12 orders", x.order(0, 5, 5, -1), BAD_VALUE);
        Due.due("12 orders alone", x.order(0, 5, 5, 5), FULL);
    }

    private static void cancel() {
        Due.about("cancel: UNKNOWN; NOT_POSSIBLE if it is not open");
        busy("cancel -1", x -> x.cancel(-1), UNKNOWN);
        busy("cancel of one behind the last", x -> x.cancel(6), UNKNOWN);
        busy("cancel of a cut one", x -> x.cancel(3), NOT_POSSIBLE);
        busy("cancel of a cancelled one", x -> x.cancel(2), NOT_POSSIBLE);
        fresh("cancel", x -> x.cancel(0), UNKNOWN);
        Told.act("cancel of a late one", Scenes::busy, x -> x.cancel(0));
    }

    private static void cut() {
        Due.about("cut: UNKNOWN (order or sheet); NOT_POSSIBLE if the order is not open, or cannot be cut from it");
        busy("cut, order -1", x -> x.cut(-1, 0), UNKNOWN);
        busy("cut, order behind the last", x -> x.cut(6, 0), UNKNOWN);
        busy("cut, sheet -1", x -> x.cut(0, -1), UNKNOWN);
        busy("cut, sheet that was cut", x -> x.cut(0, 9), UNKNOWN);
        busy("cut, sheet behind the last", x -> x.cut(0, 12), UNKNOWN);
        busy("cut of a cut order", x -> x.cut(3, 0), NOT_POSSIBLE);
        busy("cut of a cancelled order", x -> x.cut(2, 0), NOT_POSSIBLE);
        busy("cut from another sort", x -> x.cut(0, 7), NOT_POSSIBLE);
        busy("cut from a sheet that is too small", x -> x.cut(5, 0), NOT_POSSIBLE);
        Told.refused("cut of what fits only turned", () -> {
            GlassRacks x = Scenes.oneCut(30, 20, 20, 30);
            x.set(4, 0);
            return x;
        }, x -> x.cut(0, 0), NOT_POSSIBLE);
        fresh("cut", x -> x.cut(0, 0), UNKNOWN);
    }

    private static void cutOrderOfChecks() {
        Due.about("cut: the order of the line is the order of the checks");
        busy("a cut order and no such sheet", x -> x.cut(3, 9), UNKNOWN);
        busy("a cancelled order and no such sheet", x -> x.cut(2, 12), UNKNOWN);
        busy("no such order and no such sheet", x -> x.cut(6, 9), UNKNOWN);
        busy("a cut order that cannot be cut from it either", x -> x.cut(3, 7), NOT_POSSIBLE);
    }

    private static GlassRacks noOpenOrder() {
        GlassRacks x = Scenes.busy();
        for (int order : new int[] {0, 1, 4, 5}) {
            x.cancel(order);
        }
        return x;
    }

    private static void plan() {
        Due.about("plan: BAD_VALUE; NONE if no order is open");
        busy("plan(-1)", x -> x.plan(-1), BAD_VALUE);
        busy("plan(3)", x -> x.plan(3), BAD_VALUE);
        for (int i = 0; i < 3; i++) {
            int choice = i;
            fresh("plan(" + choice + ")", x -> x.plan(choice), NONE);
            Told.refused("plan(" + choice + ") with none open", EdgesOfErrorsTest::noOpenOrder, x -> x.plan(choice), NONE);
        }
        fresh("plan(3)", x -> x.plan(3), BAD_VALUE);
        Told.refused("plan(-1) with none open", EdgesOfErrorsTest::noOpenOrder, x -> x.plan(-1), BAD_VALUE);
    }

    private static void pass() {
        Due.about("pass: BAD_VALUE; FULL if the day would become more than 999");
        busy("pass(0)", x -> x.pass(0), BAD_VALUE);
        busy("pass(-1)", x -> x.pass(-1), BAD_VALUE);
        busy("pass(100)", x -> x.pass(100), BAD_VALUE);
        Told.refused("one day more than 999", () -> Scenes.atDay(999), x -> x.pass(1), FULL);
        Told.refused("99 days more than 999", () -> Scenes.atDay(999), x -> x.pass(99), FULL);
        Told.refused("99 days to day 1000", () -> Scenes.atDay(901), x -> x.pass(99), FULL);
        Told.act("99 days to day 999", () -> Scenes.atDay(900), x -> x.pass(99));
        Told.refused("days and the last day", () -> Scenes.atDay(999), x -> x.pass(100), BAD_VALUE);
        Told.refused("no days on the last day", () -> Scenes.atDay(999), x -> x.pass(0), BAD_VALUE);
    }

    private static Scenes.Making withText(Scenes.Making scene, String text) {
        return () -> {
            GlassRacks x = scene.make();
            x.clearText();
            Due.typeAll(x, text);
            return x;
        };
    }

    private static void perform() {
        Due.about("perform: -100 minus the fault of the text; otherwise the error of the first command that has one");
        fresh("perform of an empty text", GlassRacks::perform, -100);
        Told.refused("a fault", withText(Scenes::busy, "d1;x"), GlassRacks::perform, -103);
        Told.refused("a text that ends too early", withText(Scenes::busy, "d1;"), GlassRacks::perform, -103);
        Told.refused("a full rack", withText(Scenes::busy, "d1;s0:0,5x5"), GlassRacks::perform, FULL);
        Told.refused("12 orders", withText(EdgesOfErrorsTest::twelveOrders, "d1;o0,5x5@9"), GlassRacks::perform, FULL);
        Told.refused("200 sheets", withText(() -> Scenes.sheetsEver(200), "d1;s0:0,5x5"), GlassRacks::perform, FULL);
        Told.refused("the last day", withText(() -> Scenes.atDay(998), "d1;d1"), GlassRacks::perform, FULL);
        Told.refused("a fault behind an error", withText(() -> Scenes.atDay(999), "d1;d"), GlassRacks::perform, -104);
        Told.act("a plan that does nothing", withText(EdgesOfErrorsTest::noOpenOrder, "p0"), GlassRacks::perform);
    }

    private static void type() {
        Due.about("type: FULL if it has 60 characters");
        Scenes.Making sixty = withText(Scenes::busy, "d1;d1;d1;d1;d1;d1;d1;d1;d1;d1;d1;d1;d1;d1;d1;d1;d1;d1;d1;d10");
        Due.due("sixty characters", sixty.make().count(14), 60);
        Told.refused("the 61st character", sixty, x -> x.type(';'), FULL);
        Told.refused("any 61st character", sixty, x -> x.type((char) 0), FULL);
    }

    private static void undo() {
        Due.about("undo: NONE if the history is empty");
        fresh("undo", GlassRacks::undo, NONE);
        Told.refused("undo behind all undos", () -> {
            GlassRacks x = Scenes.busy();
            for (int i = 0; i < 4; i++) {
                x.undo();
            }
            return x;
        }, GlassRacks::undo, NONE);
    }

    private static void restore() {
        Due.about("restore: NONE if there is no snapshot");
        fresh("restore", GlassRacks::restore, NONE);
        Told.refused("restore without snapshot", () -> Scenes.rackOf(3), GlassRacks::restore, NONE);
    }

    private static void sheet() {
        Due.about("sheet: UNKNOWN; BAD_VALUE");
        busy("sheet of none", x -> x.sheet(9, 0), UNKNOWN);
        busy("sheet -1", x -> x.sheet(-1, 0), UNKNOWN);
        busy("sheet, what -1", x -> x.sheet(0, -1), BAD_VALUE);
        busy("sheet, what 6", x -> x.sheet(0, 6), BAD_VALUE);
        busy("sheet and what", x -> x.sheet(9, 6), UNKNOWN);
        busy("sheet that was bought", x -> x.sheet(0, 5), NONE);
    }

    private static void at() {
        Due.about("at: UNKNOWN; BAD_VALUE if place is negative; NONE if there are not so many");
        busy("at, rack -1", x -> x.at(-1, 0), UNKNOWN);
        busy("at, rack 4", x -> x.at(4, 0), UNKNOWN);
        busy("at, place -1", x -> x.at(0, -1), BAD_VALUE);
        busy("at, place 8 of 8", x -> x.at(0, 8), NONE);
        busy("at, place 1 of 1", x -> x.at(1, 1), NONE);
        busy("at, place 0 of an empty rack", x -> x.at(3, 0), NONE);
        busy("at, rack and place", x -> x.at(4, -1), UNKNOWN);
        busy("at, place -1 of an empty rack", x -> x.at(3, -1), BAD_VALUE);
    }

    private static void ordered() {
        Due.about("ordered: UNKNOWN; BAD_VALUE");
        busy("ordered of none", x -> x.ordered(6, 0), UNKNOWN);
        busy("ordered -1", x -> x.ordered(-1, 0), UNKNOWN);
        busy("ordered, what -1", x -> x.ordered(0, -1), BAD_VALUE);
        busy("ordered, what 8", x -> x.ordered(0, 8), BAD_VALUE);
        busy("ordered and what", x -> x.ordered(6, 8), UNKNOWN);
        for (int order : new int[] {0, 2}) {
            busy("the sheet of order " + order, x -> x.ordered(order, 5), NONE);
            busy("the day of the cut of order " + order, x -> x.ordered(order, 6), NONE);
        }
        busy("what 8 of a cut one", x -> x.ordered(3, 8), BAD_VALUE);
    }

    private static void would() {
        Due.about("would: UNKNOWN (order or sheet); BAD_VALUE; NONE if the order (open or not) cannot be cut from it");
        busy("would, order -1", x -> x.would(-1, 0, 0), UNKNOWN);
        busy("would, order behind the last", x -> x.would(6, 0, 0), UNKNOWN);
        busy("would, sheet -1", x -> x.would(0, -1, 0), UNKNOWN);
        busy("would, sheet that was cut", x -> x.would(0, 9, 0), UNKNOWN);
        busy("would, what -1", x -> x.would(0, 0, -1), BAD_VALUE);
        busy("would, what 7", x -> x.would(0, 0, 7), BAD_VALUE);
        for (int i = 0; i < 7; i++) {
            int what = i;
            busy("would from another sort, " + what, x -> x.would(0, 7, what), NONE);
            busy("would from what is too small, " + what, x -> x.would(5, 0, what), NONE);
            busy("would of a cut one from another sort, " + what, x -> x.would(3, 7, what), NONE);
            busy("would of a cancelled one from another sort, " + what, x -> x.would(2, 7, what), NONE);
        }
        GlassRacks x = Scenes.busy();
        Due.due("would of a cut one", x.would(3, 8, 6), 1);
        Due.due("would of a cancelled one", x.would(2, 0, 6), 8);
    }

    private static void wouldOrderOfChecks() {
        Due.about("would: the order of the line is the order of the checks");
        busy("order and what", x -> x.would(6, 0, 7), UNKNOWN);
        busy("sheet and what", x -> x.would(0, 9, -1), UNKNOWN);
        busy("what and another sort", x -> x.would(0, 7, 7), BAD_VALUE);
        busy("what and too small", x -> x.would(5, 0, -1), BAD_VALUE);
    }

    private static void choice() {
        Due.about("choice: UNKNOWN; BAD_VALUE; NOT_POSSIBLE if it is not open; NONE if there is none");
        busy("choice of none", x -> x.choice(6, 0), UNKNOWN);
        busy("choice of -1", x -> x.choice(-1, 0), UNKNOWN);
        busy("choice, -1", x -> x.choice(0, -1), BAD_VALUE);
        busy("choice, 3", x -> x.choice(0, 3), BAD_VALUE);
        for (int i = 0; i < 3; i++) {
            int choice = i;
            busy("choice of a cut one by " + choice, x -> x.choice(3, choice), NOT_POSSIBLE);
            busy("choice of a cancelled one by " + choice, x -> x.choice(2, choice), NOT_POSSIBLE);
            busy("choice where nothing is of its sort by " + choice, x -> x.choice(4, choice), NONE);
            busy("choice where nothing is large enough by " + choice, x -> x.choice(5, choice), NONE);
        }
        busy("order and choice", x -> x.choice(6, 3), UNKNOWN);
        busy("choice and a cut one", x -> x.choice(3, 3), BAD_VALUE);
        busy("choice and no sheet", x -> x.choice(4, -1), BAD_VALUE);
        Told.refused("a cancelled one and no sheet", () -> {
            GlassRacks x = Scenes.busy();
            x.cancel(4);
            return x;
        }, x -> x.choice(4, 0), NOT_POSSIBLE);
    }

    private static void next() {
        Due.about("next: BAD_VALUE if rank is negative; NONE if there are not so many");
        busy("next(-1)", x -> x.next(-1), BAD_VALUE);
        busy("next(4) of 4", x -> x.next(4), NONE);
        fresh("next(0)", x -> x.next(0), NONE);
        fresh("next(-1)", x -> x.next(-1), BAD_VALUE);
    }

    private static void wouldPlan() {
        Due.about("wouldPlan: BAD_VALUE");
        busy("choice -1", x -> x.wouldPlan(-1, 0), BAD_VALUE);
        busy("choice 3", x -> x.wouldPlan(3, 0), BAD_VALUE);
        busy("what -1", x -> x.wouldPlan(0, -1), BAD_VALUE);
        busy("what 4", x -> x.wouldPlan(0, 4), BAD_VALUE);
        fresh("what 4", x -> x.wouldPlan(0, 4), BAD_VALUE);
        fresh("choice 3", x -> x.wouldPlan(3, 0), BAD_VALUE);
    }

    private static void count() {
        Due.about("count: BAD_VALUE");
        for (int what : new int[] {-1, 15, 19, 25}) {
            busy("count(" + what + ")", x -> x.count(what), BAD_VALUE);
        }
    }
}
