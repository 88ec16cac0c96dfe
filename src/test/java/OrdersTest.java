/** Promises 6 to 8, 10, 19 and 20: order, cancel, cut, pass, ordered, would. */
public final class OrdersTest {
    private static final int UNKNOWN = GlassRacks.UNKNOWN;
    private static final int BAD_VALUE = GlassRacks.BAD_VALUE;
    private static final int FULL = GlassRacks.FULL;
    private static final int NOT_POSSIBLE = GlassRacks.NOT_POSSIBLE;
    private static final int NONE = GlassRacks.NONE;
    private static final int LOW = Integer.MIN_VALUE;
    private static final int HIGH = Integer.MAX_VALUE;

    private OrdersTest() {
    }

    public static void main(String[] args) {
        promise6Order();
        promise7Cancel();
        promise8CutByBothManners();
        promise8PiecesAndRoom();
        promise8LeastSide();
        promise8Breaks();
        promise8Errors();
        promise10Pass();
        promise19Ordered();
        promise20Would();
        promise20Turning();
        Due.finish();
    }

    private static void due(String call, long got, long want) {
        Due.due(call, got, want);
    }

    private static void promise6Order() {
        GlassRacks x = new GlassRacks();
        due("order least", x.order(0, 1, 1, 0), 0);
        due("order greatest", x.order(2, 99, 99, 999), 1);
        for (int wrong : new int[] {-1, 3, LOW, HIGH}) {
            due("order sort " + wrong, x.order(wrong, 0, 1, 0), UNKNOWN);
        }
        for (int wrong : new int[] {0, -1, 100, LOW, HIGH}) {
            due("order width " + wrong, x.order(0, wrong, 1, 0), BAD_VALUE);
            due("order height " + wrong, x.order(0, 1, wrong, 0), BAD_VALUE);
        }
        for (int wrong : new int[] {-1, 1000, LOW, HIGH}) {
            due("order day " + wrong, x.order(0, 1, 1, wrong), BAD_VALUE);
        }
        due("errors take nothing", x.count(9), 2);
        due("errors record nothing", x.count(13), 2);
        x.pass(5);
        due("a day that lies behind", x.order(0, 4, 5, 2), 2);
        due("it is late at once", x.ordered(2, 7), 1);
        for (int i = 3; i < 12; i++) {
            due("order " + i, x.order(1, 2, 3, 4), i);
        }
        due("BAD_VALUE before FULL", x.order(1, 2, 3, -4), BAD_VALUE);
        due("the thirteenth", x.order(1, 2, 3, 4), FULL);
        due("twelve", x.count(9), 12);
        x.cancel(11);
        due("twelve ever", x.order(1, 2, 3, 4), FULL);
        x.undo();
        x.undo();
        due("undone", x.count(9), 11);
        due("the twelfth again", x.order(1, 2, 3, 4), 11);
    }

    private static void promise7Cancel() {
        GlassRacks x = new GlassRacks();
        x.buy(0, 0, 9, 9);
        x.order(0, 1, 1, 0);
        x.order(0, 2, 2, 0);
        x.order(0, 3, 3, 0);
        due("cancel 1", x.cancel(1), 2);
        due("it is cancelled", x.ordered(1, 4), 2);
        due("cancel it again", x.cancel(1), NOT_POSSIBLE);
        x.cut(0, 0);
        due("cancel a cut one", x.cancel(0), NOT_POSSIBLE);
        for (int wrong : new int[] {-1, 3, 12, LOW, HIGH}) {
            due("cancel " + wrong, x.cancel(wrong), UNKNOWN);
        }
        due("cancel 2", x.cancel(2), 0);
        due("open ones", x.count(10), 0);
        due("orders so far", x.count(9), 3);
        x.pass(5);
        due("a cancelled one is not late", x.ordered(2, 7), 0);
        due("none is late", x.count(11), 0);
        x.undo();
        x.undo();
        due("undone", x.ordered(2, 4), 0);
    }

    private static void promise8CutByBothManners() {
        for (int manner = 0; manner <= 1; manner++) {
            GlassRacks x = new GlassRacks();
            x.set(0, 3);
            x.set(2, manner);
            x.buy(1, 2, 80, 70);
            x.buy(1, 2, 9, 9);
            x.order(2, 30, 20, 4);
            due("cut", x.cut(0, 0), 2);
            due("beside is behind", x.at(1, 1), 2);
            due("above is at the front", x.at(1, 0), 3);
            due("what was before is behind both", x.at(1, 2), 1);
            due("beside width", x.sheet(2, 1), 80 - 30 - 3);
            due("beside height", x.sheet(2, 2), manner == 0 ? 20 : 70);
            due("above width", x.sheet(3, 1), manner == 0 ? 80 : 30);
            due("above height", x.sheet(3, 2), 70 - 20 - 3);
            due("sort", x.sheet(2, 0) + x.sheet(3, 0), 4);
            due("source", x.sheet(3, 5), 0);
            due("panes", x.count(4), 600);
            due("no scrap", x.count(5), 0);
            int kept = 47 * (manner == 0 ? 20 : 70) + 47 * (manner == 0 ? 80 : 30);
            due("lost", x.count(7), 5600 - 600 - kept);
            due("liftings", x.count(8), 2);
            due("ordered", x.ordered(0, 4), 1);
            due("from", x.ordered(0, 5), 0);
            due("on", x.ordered(0, 6), 0);
            x.undo();
            due("undone", x.sheet(0, 1), 80);
            due("undone", x.count(12), 2);
        }
    }

    private static void promise8PiecesAndRoom() {
        GlassRacks x = new GlassRacks();
        x.order(0, 20, 20, 4);
        x.order(0, 50, 50, 4);
        x.order(0, 50, 49, 4);
        for (int i = 0; i < 8; i++) {
            x.buy(0, 0, 50, 50);
        }
        x.keep();
        due("a full rack keeps one piece", x.cut(0, 3), 1);
        due("the piece beside", x.sheet(8, 1), 29);
        due("lies at the front", x.at(0, 0), 8);
        due("the other is scrap", x.count(5), 50 * 29);
        due("lifted", x.count(8), 5);
        x.restore();
        x.scrap(7);
        due("with seven there is room for both", x.cut(0, 3), 2);
        x.restore();
        x.set(3, 4);
        due("what breaks makes room", x.cut(0, 3), 2);
        due("the fourth lifted broke", x.sheet(4, 0), UNKNOWN);
        due("eight again", x.at(0, 7), 0);
        x.restore();
        x.set(1, 30);
        due("a beside too small leaves room for none above", x.cut(0, 7), 0);
        due("both scrap", x.count(5), 29 * 20 + 50 * 29);
        x.restore();
        due("a pane as large as the sheet", x.cut(1, 0), 0);
        due("no scrap", x.count(5), 0);
        due("no loss", x.count(7), 0);
        x.restore();
        due("a piece of height 0 is none", x.cut(2, 0), 0);
        due("no scrap of it", x.count(5), 0);
        due("all else is lost", x.count(7), 50);
        x.restore();
        x.set(0, 0);
        due("without a width of cuts", x.cut(2, 0), 0);
        due("it is scrap", x.count(5), 50);
        due("nothing is lost", x.count(7), 0);
    }

    private static void promise8LeastSide() {
        int[] beside = {9, 10, 11};
        for (int wide : beside) {
            GlassRacks x = new GlassRacks();
            x.buy(0, 0, 20 + 1 + wide, 20 + 1 + 9);
            x.order(0, 20, 20, 0);
            int kept = wide >= 10 ? 1 : 0;
            due("beside of " + wide, x.cut(0, 0), kept);
            due("sheets", x.count(1), kept);
            due("scrap", x.count(5), (kept == 0 ? wide * 20 : 0) + (21 + wide) * 9);
            due("lost", x.count(7), 20 + 21 + wide);
        }
        GlassRacks x = new GlassRacks();
        x.set(1, 21);
        x.buy(0, 0, 80, 80);
        x.order(0, 20, 20, 0);
        due("the other side counts too", x.cut(0, 0), 1);
        due("it is the piece above", x.sheet(1, 1), 80);
        due("scrap is the piece beside", x.count(5), 59 * 20);
        x = new GlassRacks();
        x.set(1, 1);
        x.buy(0, 0, 22, 22);
        x.order(0, 20, 20, 0);
        due("the least least side", x.cut(0, 0), 2);
        // Width and height of the sheet, of the pane, and the area of the one piece that would be kept.
        int[][] edges = {
            {31, 20, 20, 20, 200}, {30, 20, 20, 20, 0}, {51, 10, 20, 10, 300}, {51, 9, 20, 9, 0},
            {20, 31, 20, 20, 200}, {20, 30, 20, 20, 0}, {10, 51, 10, 20, 300}, {9, 51, 9, 20, 0},
        };
        for (int[] edge : edges) {
            for (int manner = 0; manner < 2; manner++) {
                x = new GlassRacks();
                x.set(2, manner);
                x.buy(0, 0, edge[0], edge[1]);
                x.order(0, edge[2], edge[3], 0);
                due("would keep of " + edge[0] + "x" + edge[1], x.would(0, 0, 3), edge[4]);
                due("the pieces kept", x.cut(0, 0), edge[4] > 0 ? 1 : 0);
                due("their area", x.count(2), edge[4]);
            }
        }
        x = new GlassRacks();
        x.set(1, 99);
        x.set(0, 0);
        x.buy(0, 0, 99, 99);
        x.order(0, 1, 1, 0);
        due("the greatest least side", x.cut(0, 0), 0);
        due("all is scrap", x.count(5), 99 * 99 - 1);
    }

    private static void promise8Breaks() {
        GlassRacks x = new GlassRacks();
        x.set(3, 2);
        x.buy(0, 0, 32, 32);
        x.buy(0, 0, 40, 40);
        x.order(0, 20, 20, 0);
        due("the sheet breaks", x.cut(0, 0), 10);
        due("the order stays open", x.ordered(0, 4), 0);
        due("from no sheet", x.ordered(0, 5), NONE);
        due("broken", x.count(6), 1024);
        due("no pane", x.count(4), 0);
        due("the other stays", x.at(0, 0), 1);
        due("one is left", x.count(1), 1);
        due("no more than four states", x.count(13), 4);
        due("again from the other", x.cut(0, 1), 2);
        x.undo();
        x.undo();
        due("undone", x.sheet(0, 1), 32);
        x.buy(0, 0, 50, 50);
        due("one before it breaks, it does not", x.cut(0, 0), 2);
        due("it was the second", x.sheet(1, 0), UNKNOWN);
        due("the front one is behind the pieces", x.at(0, 2), 2);
    }

    private static void promise8Errors() {
        GlassRacks x = new GlassRacks();
        x.buy(0, 0, 30, 20);
        x.buy(0, 1, 99, 99);
        x.order(0, 20, 25, 0);
        x.order(0, 31, 5, 0);
        x.order(0, 21, 21, 0);
        for (int wrong : new int[] {-1, 3, 12, LOW, HIGH}) {
            due("cut order " + wrong, x.cut(wrong, 0), UNKNOWN);
        }
        for (int wrong : new int[] {-1, 2, 200, LOW, HIGH}) {
            due("cut sheet " + wrong, x.cut(0, wrong), UNKNOWN);
        }
        due("another sort", x.cut(0, 1), NOT_POSSIBLE);
        due("too wide", x.cut(1, 0), NOT_POSSIBLE);
        due("too high, turned too", x.cut(2, 0), NOT_POSSIBLE);
        x.set(4, 0);
        due("turning is not allowed", x.cut(0, 0), NOT_POSSIBLE);
        due("nothing was lifted", x.count(8), 0);
        x.set(4, 1);
        x.cancel(2);
        due("a cancelled order", x.cut(2, 0), NOT_POSSIBLE);
        due("turned it can be cut", x.cut(0, 0), 0);
        due("panes", x.count(4), 500);
        due("a cut order", x.cut(0, 1), NOT_POSSIBLE);
        due("a cut order from a sheet that is gone", x.cut(0, 0), UNKNOWN);
    }

    private static void promise10Pass() {
        GlassRacks x = new GlassRacks();
        x.buy(0, 0, 90, 90);
        x.order(0, 1, 1, 0);
        x.order(0, 1, 1, 1);
        x.order(0, 1, 1, 1);
        x.order(0, 1, 1, 2);
        x.cancel(2);
        due("pass 1", x.pass(1), 1);
        due("late", x.count(11), 1);
        due("pass 2", x.pass(2), 2);
        due("day", x.count(0), 3);
        due("late", x.count(11), 3);
        due("pass 99", x.pass(99), 0);
        for (int wrong : new int[] {0, -1, 100, LOW, HIGH}) {
            due("pass " + wrong, x.pass(wrong), BAD_VALUE);
        }
        for (int i = 0; i < 9; i++) {
            x.pass(99);
        }
        due("day", x.count(0), 993);
        due("too far", x.pass(7), FULL);
        due("BAD_VALUE before FULL", x.pass(100), BAD_VALUE);
        due("day", x.count(0), 993);
        due("to the last day", x.pass(6), 0);
        due("day", x.count(0), 999);
        due("no further", x.pass(1), FULL);
        due("an order by the last day", x.order(0, 1, 1, 999), 4);
        due("is not late", x.ordered(4, 7), 0);
        x.undo();
        x.undo();
        due("undone", x.count(0), 993);
    }

    private static void promise19Ordered() {
        GlassRacks x = new GlassRacks();
        x.buy(0, 2, 90, 90);
        x.order(2, 30, 40, 5);
        x.order(2, 3, 4, 6);
        int[] open = {2, 30, 40, 5, 0, NONE, NONE, 0};
        for (int what = 0; what < 8; what++) {
            due("open " + what, x.ordered(0, what), open[what]);
        }
        for (int wrong : new int[] {-1, 8, LOW, HIGH}) {
            due("what " + wrong, x.ordered(0, wrong), BAD_VALUE);
            due("order " + (wrong == 8 ? 2 : wrong), x.ordered(wrong == 8 ? 2 : wrong, 8), UNKNOWN);
        }
        x.pass(5);
        due("not late on its day", x.ordered(0, 7), 0);
        x.keep();
        x.cut(0, 0);
        int[] inTime = {2, 30, 40, 5, 1, 0, 5, 0};
        for (int what = 0; what < 8; what++) {
            due("cut in time " + what, x.ordered(0, what), inTime[what]);
        }
        x.pass(3);
        due("cut in time is never late", x.ordered(0, 7), 0);
        due("the open one is late", x.ordered(1, 7), 1);
        x.restore();
        x.pass(1);
        due("late when open behind its day", x.ordered(0, 7), 1);
        x.cut(0, 0);
        int[] late = {2, 30, 40, 5, 1, 0, 6, 1};
        for (int what = 0; what < 8; what++) {
            due("cut late " + what, x.ordered(0, what), late[what]);
        }
        due("count of late ones", x.count(11), 1);
        x.undo();
        x.cancel(0);
        int[] cancelled = {2, 30, 40, 5, 2, NONE, NONE, 0};
        for (int what = 0; what < 8; what++) {
            due("cancelled " + what, x.ordered(0, what), cancelled[what]);
        }
    }

    private static void promise20Would() {
        GlassRacks x = new GlassRacks();
        x.buy(0, 0, 60, 40);
        x.buy(0, 1, 99, 99);
        x.buy(0, 0, 20, 31);
        x.order(0, 25, 30, 0);
        int[] first = {0, 34 * 30, 60 * 9, 34 * 30, 60 * 9, 2400 - 750 - 1020 - 540, 3};
        int[] second = {0, 34 * 40, 25 * 9, 34 * 40, 25 * 9, 2400 - 750 - 1360 - 225, 3};
        for (int what = 0; what < 7; what++) {
            due("manner 0, " + what, x.would(0, 0, what), first[what]);
        }
        x.set(2, 1);
        for (int what = 0; what < 7; what++) {
            due("manner 1, " + what, x.would(0, 0, what), second[what]);
        }
        for (int wrong : new int[] {-1, 7, LOW, HIGH}) {
            due("would what " + wrong, x.would(0, 0, wrong), BAD_VALUE);
            due("would what " + wrong + " of what cannot be", x.would(0, 1, wrong), BAD_VALUE);
            due("would order", x.would(wrong == 7 ? 1 : wrong, 0, 9), UNKNOWN);
            due("would sheet", x.would(0, wrong == 7 ? 3 : wrong, 9), UNKNOWN);
        }
        due("another sort", x.would(0, 1, 0), NONE);
        due("too small", x.would(0, 2, 0), NONE);
        x.set(3, 1);
        due("if nothing broke", x.would(0, 0, 3), 34 * 40);
        due("if nothing broke: liftings", x.would(0, 0, 6), 3);
        x.set(3, 0);
        for (int i = 0; i < 5; i++) {
            x.buy(0, 2, 1, 1);
        }
        due("if there was room", x.would(0, 0, 3), 34 * 40);
        x.set(1, 9);
        due("both kept in a full rack", x.would(0, 0, 3), 34 * 40 + 225);
        due("no scrap in a full rack", x.would(0, 0, 4), 0);
        x.cancel(0);
        due("a cancelled order too", x.would(0, 0, 1), 34 * 40);
        due("nothing was lifted", x.count(8), 0);
        x = new GlassRacks();
        x.set(0, 5);
        x.buy(3, 0, 50, 50);
        x.order(0, 46, 45, 0);
        due("a side of less than 0", x.would(0, 0, 1), 0);
        due("a side of 0", x.would(0, 0, 2), 0);
        due("no scrap", x.would(0, 0, 4), 0);
        due("the rest is lost", x.would(0, 0, 5), 2500 - 46 * 45);
    }

    private static void promise20Turning() {
        GlassRacks x = new GlassRacks();
        x.buy(0, 0, 40, 30);
        x.order(0, 20, 40, 0);
        x.order(0, 30, 30, 0);
        x.order(0, 30, 40, 0);
        x.order(0, 40, 30, 0);
        x.order(0, 31, 31, 0);
        due("turned", x.would(0, 0, 0), 1);
        due("turned: no piece beside", x.would(0, 0, 1), 0);
        due("turned: the piece above", x.would(0, 0, 2), 40 * 9);
        due("upright comes first", x.would(1, 0, 0), 0);
        due("turned, as large as the sheet", x.would(2, 0, 0), 1);
        due("upright, as large as the sheet", x.would(3, 0, 0), 0);
        due("fits in no way", x.would(4, 0, 0), NONE);
        x.set(4, 0);
        due("turning not allowed", x.would(0, 0, 0), NONE);
        due("upright is", x.would(1, 0, 0), 0);
        x.set(4, 1);
        due("cut turned", x.cut(0, 0), 0);
        due("scrap of it", x.count(5), 360);
    }
}
