/** Promises 9 and 21 to 23: plan, choice, next, wouldPlan. */
public final class PlansTest {
    private static final int UNKNOWN = GlassRacks.UNKNOWN;
    private static final int BAD_VALUE = GlassRacks.BAD_VALUE;
    private static final int NOT_POSSIBLE = GlassRacks.NOT_POSSIBLE;
    private static final int NONE = GlassRacks.NONE;
    private static final int LOW = Integer.MIN_VALUE;
    private static final int HIGH = Integer.MAX_VALUE;

    private PlansTest() {
    }

    public static void main(String[] args) {
        promise9Plan();
        promise9ThingsAsTheyAreThen();
        promise9TwelveOrders();
        promise9Breaks();
        promise21Choice();
        promise21Equals();
        promise22Next();
        promise23WouldPlan();
        Due.finish();
    }

    private static void due(String call, long got, long want) {
        Due.due(call, got, want);
    }

    private static void promise9Plan() {
        GlassRacks x = new GlassRacks();
        for (int wrong : new int[] {-1, 3, LOW, HIGH}) {
            due("plan " + wrong, x.plan(wrong), BAD_VALUE);
        }
        due("no order", x.plan(0), NONE);
        due("which is no act", x.count(13), 0);
        x.order(0, 10, 10, 0);
        due("no sheet", x.plan(0), 0);
        due("which is an act", x.count(13), 2);
        due("the order stays open", x.count(10), 1);
        x.buy(0, 0, 10, 10);
        due("one cut", x.plan(1), 1);
        due("on the day", x.ordered(0, 6), 0);
        due("no open one is left", x.plan(2), NONE);
        due("BAD_VALUE before NONE", x.plan(3), BAD_VALUE);
        x.undo();
        due("undone", x.count(10), 1);
        for (int choice = 0; choice < 3; choice++) {
            GlassRacks y = threeSheets();
            due("plan by " + choice, y.plan(choice), 1);
            due("from", y.ordered(0, 5), choice);
        }
    }

    /** Sheet 0 is the least, 1 the one with none before it, 2 the one with no scrap; 3 and 4 are of another sort. */
    private static GlassRacks threeSheets() {
        GlassRacks x = new GlassRacks();
        x.buy(0, 0, 30, 25);
        x.buy(1, 0, 28, 50);
        x.buy(2, 0, 60, 60);
        x.buy(0, 1, 20, 20);
        x.buy(2, 1, 20, 20);
        x.order(0, 20, 20, 0);
        return x;
    }

    private static void promise9ThingsAsTheyAreThen() {
        GlassRacks x = new GlassRacks();
        x.buy(0, 0, 50, 50);
        x.order(0, 20, 20, 7);
        x.order(0, 30, 20, 7);
        x.order(0, 60, 60, 1);
        x.order(0, 25, 15, 9);
        due("three are cut, each from what the one before left", x.plan(0), 3);
        due("the greater first", x.ordered(1, 5), 0);
        due("the second from the piece above", x.ordered(0, 5), 2);
        due("what does not fit is passed over", x.ordered(2, 4), 0);
        due("the last one from a piece of the piece above", x.ordered(3, 5), 3);
        due("panes", x.count(4), 400 + 600 + 375);
        due("scrap", x.count(5), 50 * 8 + 3 * 15 + 29 * 4);
        due("all area is somewhere", x.count(2) + x.count(4) + x.count(5) + x.count(7), 2500);
        due("one act", x.count(13), 4);
        x.undo();
        due("undone", x.count(10), 4);
    }

    private static void promise9TwelveOrders() {
        GlassRacks x = new GlassRacks();
        x.set(0, 0);
        for (int i = 0; i < 12; i++) {
            x.buy(i % 4, 0, 12 - i, 1);
            x.order(0, 12 - i, 1, i);
        }
        due("twelve orders would be cut", x.wouldPlan(0, 0), 12);
        due("twelve orders are cut", x.plan(0), 12);
        due("no sheet is left", x.count(1), 0);
        due("the last one from the last sheet", x.ordered(11, 5), 11);
    }

    private static void promise9Breaks() {
        GlassRacks x = new GlassRacks();
        x.set(3, 2);
        x.buy(0, 0, 20, 20);
        x.buy(1, 0, 20, 20);
        x.buy(2, 0, 20, 20);
        x.order(0, 20, 20, 0);
        x.order(0, 20, 20, 1);
        x.order(0, 20, 20, 2);
        due("the second one's sheet breaks, the next one follows", x.plan(0), 2);
        due("first", x.ordered(0, 5), 0);
        due("second stays open", x.ordered(1, 4), 0);
        due("third", x.ordered(2, 5), 2);
        due("broken", x.count(6), 400);
        due("liftings", x.count(8), 3);
        due("its turn is over in that plan", x.count(1), 0);
    }

    private static void promise21Choice() {
        GlassRacks x = threeSheets();
        due("least area", x.choice(0, 0), 0);
        due("fewest before", x.choice(0, 1), 1);
        due("least scrap", x.choice(0, 2), 2);
        for (int wrong : new int[] {-1, 3, LOW, HIGH}) {
            due("choice " + wrong, x.choice(0, wrong), BAD_VALUE);
            due("order", x.choice(wrong == 3 ? 1 : wrong, 9), UNKNOWN);
        }
        x.order(2, 1, 1, 0);
        due("no sheet of its sort", x.choice(1, 0), NONE);
        x.cancel(1);
        due("not open", x.choice(1, 0), NOT_POSSIBLE);
        due("BAD_VALUE before NOT_POSSIBLE", x.choice(1, 3), BAD_VALUE);
        x.order(0, 99, 99, 0);
        due("fits nowhere", x.choice(2, 2), NONE);
        x.plan(0);
        due("a cut one", x.choice(0, 0), NOT_POSSIBLE);
    }

    private static void promise21Equals() {
        GlassRacks x = new GlassRacks();
        x.buy(3, 0, 40, 20);
        x.buy(1, 0, 20, 40);
        x.buy(0, 0, 40, 20);
        x.order(0, 20, 20, 0);
        for (int choice = 0; choice < 3; choice++) {
            due("the lowest number by " + choice, x.choice(0, choice), 0);
        }
        x.scrap(0);
        for (int choice = 0; choice < 3; choice++) {
            due("the next number by " + choice, x.choice(0, choice), 1);
        }
        x.buy(1, 0, 90, 90);
        due("one before sheet 1", x.choice(0, 1), 2);
        x.set(3, 1);
        due("scrap if nothing broke", x.choice(0, 2), 1);
        x.set(3, 0);
        x.set(4, 0);
        x.order(0, 20, 30, 0);
        due("upright only", x.choice(1, 0), 1);
        x.set(4, 1);
        x.move(1, 1);
        x.move(2, 2);
        due("turned too, the lowest of equal ones", x.choice(1, 1), 1);

        // In a full rack one piece of this cut would be scrap, but a choice is made as if there was room.
        x = new GlassRacks();
        x.buy(0, 0, 50, 50);
        for (int i = 0; i < 7; i++) {
            x.buy(0, 1, 1, 1);
        }
        x.buy(1, 0, 50, 25);
        x.order(0, 20, 20, 0);
        due("a full rack", x.would(0, 0, 4), 0);
        due("a piece of height 4", x.would(0, 8, 4), 200);
        due("as if there was room", x.choice(0, 2), 0);
    }

    private static void promise22Next() {
        GlassRacks x = new GlassRacks();
        int[][] orders = {{10, 10, 5}, {20, 5, 5}, {11, 10, 5}, {1, 1, 4}, {99, 99, 6}, {5, 20, 5}, {2, 1, 4}};
        for (int[] order : orders) {
            x.order(0, order[0], order[1], order[2]);
        }
        int[] turns = {6, 3, 2, 0, 1, 5, 4};
        for (int rank = 0; rank < turns.length; rank++) {
            due("next " + rank, x.next(rank), turns[rank]);
        }
        for (int rank : new int[] {7, 11, 12, 13, HIGH}) {
            due("next " + rank, x.next(rank), NONE);
        }
        due("next -1", x.next(-1), BAD_VALUE);
        due("next lowest", x.next(LOW), BAD_VALUE);
        x.cancel(3);
        due("cancelled ones are left out", x.next(1), 2);
        x.buy(0, 0, 99, 99);
        x.cut(4, 0);
        due("cut ones are left out", x.next(5), NONE);
        due("the last", x.next(4), 5);
        x.pass(50);
        due("late ones stay", x.next(0), 6);
        for (int i = 7; i < 12; i++) {
            x.order(0, 1, 1, 999);
        }
        due("the twelfth order", x.next(9), 11);
        GlassRacks y = new GlassRacks();
        for (int i = 0; i < 12; i++) {
            y.order(0, 1, 1, 999 - i);
        }
        for (int i = 0; i < 12; i++) {
            due("twelve by days", y.next(i), 11 - i);
        }
        due("no thirteenth", y.next(12), NONE);
    }

    private static void promise23WouldPlan() {
        GlassRacks x = new GlassRacks();
        for (int what = 0; what < 4; what++) {
            due("no order: " + what, x.wouldPlan(0, what), 0);
        }
        for (int wrong : new int[] {-1, 3, LOW, HIGH}) {
            due("wouldPlan choice " + wrong, x.wouldPlan(wrong, 0), BAD_VALUE);
        }
        for (int wrong : new int[] {-1, 4, LOW, HIGH}) {
            due("wouldPlan what " + wrong, x.wouldPlan(0, wrong), BAD_VALUE);
        }
        x.set(3, 3);
        x.buy(0, 0, 35, 35);
        x.buy(0, 1, 20, 20);
        x.buy(0, 0, 60, 60);
        x.buy(1, 0, 45, 25);
        x.order(0, 20, 20, 3);
        x.order(0, 25, 15, 2);
        x.order(0, 15, 15, 2);
        x.scrap(1);
        x.keep();
        for (int choice = 0; choice < 3; choice++) {
            int[] told = new int[4];
            int scrap = x.count(5);
            int liftings = x.count(8);
            int broken = x.count(6);
            int states = x.count(13);
            for (int what = 0; what < 4; what++) {
                told[what] = x.wouldPlan(choice, what);
            }
            due("no scrap is made", x.count(5), scrap);
            due("nothing is lifted", x.count(8), liftings);
            due("nothing is broken", x.count(6), broken);
            due("nothing is recorded", x.count(13), states);
            due("nothing is cut", x.count(10), 3);
            due("as the plan does", x.plan(choice), told[0]);
            due("scrap by " + choice, x.count(5) - scrap, told[1]);
            due("liftings by " + choice, x.count(8) - liftings, told[2]);
            due("broken by " + choice, x.count(6) - broken, told[3]);
            due("something broke by " + choice, told[3] > 0 ? 1 : 0, 1);
            x.restore();
        }
        due("two would be cut", x.wouldPlan(0, 0), 2);

        x = new GlassRacks();
        x.set(3, 1);
        x.buy(0, 0, 20, 20);
        x.buy(1, 0, 20, 30);
        x.scrap(0);
        x.order(0, 20, 20, 0);
        due("what broke before does not count", x.wouldPlan(0, 3), 600);
        due("it stays", x.count(6), 400);
        x.set(3, 0);
        due("nothing would break", x.wouldPlan(0, 3), 0);
    }
}
