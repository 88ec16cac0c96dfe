/** Promises 14 to 16 and 24: undo, keep, restore, count. */
public final class HistoryTest {
    private static final int UNKNOWN = GlassRacks.UNKNOWN;
    private static final int BAD_VALUE = GlassRacks.BAD_VALUE;
    private static final int NONE = GlassRacks.NONE;

    private HistoryTest() {
    }

    public static void main(String[] args) {
        promise14Undo();
        promise14EveryAct();
        promise15Keep();
        promise16Restore();
        promise24Count();
        Due.finish();
    }

    private static void due(String call, long got, long want) {
        Due.due(call, got, want);
    }

    private static void promise14Undo() {
        GlassRacks x = new GlassRacks();
        due("nothing to undo", x.undo(), NONE);
        for (int i = 1; i <= 4; i++) {
            x.pass(1);
            due("states", x.count(13), i);
        }
        x.pass(1);
        due("four at most", x.count(13), 4);
        x.pass(1);
        due("four at most", x.count(13), 4);
        for (int i = 3; i >= 0; i--) {
            due("undo", x.undo(), i);
            due("the day before", x.count(0), 2 + i);
            due("states left", x.count(13), i);
        }
        due("the oldest ones were dropped", x.undo(), NONE);
        due("the day stays", x.count(0), 2);
        x.pass(10);
        x.undo();
        x.pass(20);
        due("undo behind undo", x.undo(), 0);
        due("the day", x.count(0), 2);
    }

    private static void promise14EveryAct() {
        for (int act = 0; act < 11; act++) {
            GlassRacks x = new GlassRacks();
            x.buy(0, 0, 50, 50);
            x.buy(0, 0, 60, 60);
            x.order(0, 20, 20, 3);
            x.order(0, 30, 30, 4);
            x.keep();
            Due.typeAll(x, "s1:1,5x5;d1");
            // Two acts first, so that the state before this one is not that before the others.
            x.restore();
            x.pass(act + 1);
            int[] was = told(x);
            due("act " + act, doAct(x, act) >= 0 ? 1 : 0, 1);
            due("undo of act " + act, x.undo(), 3);
            int[] is = told(x);
            for (int i = 0; i < was.length; i++) {
                due("told " + i + " behind undo of act " + act, is[i], was[i]);
            }
        }
    }

    private static int doAct(GlassRacks x, int act) {
        switch (act) {
            case 0: return x.set(1, 30);
            case 1: return x.buy(2, 2, 9, 9);
            case 2: return x.move(0, 3);
            case 3: return x.scrap(0);
            case 4: return x.order(2, 9, 9, 9);
            case 5: return x.cancel(1);
            case 6: return x.cut(0, 0);
            case 7: return x.plan(2);
            case 8: return x.pass(7);
            case 9: return x.perform();
            default: return x.restore();
        }
    }

    private static int[] told(GlassRacks x) {
        int[] told = new int[200];
        int n = 0;
        for (int what = 0; what <= 12; what++) {
            told[n++] = x.count(what);
        }
        for (int what = 20; what <= 24; what++) {
            told[n++] = x.count(what);
        }
        for (int rack = 0; rack < 4; rack++) {
            for (int place = 0; place < 8; place++) {
                told[n++] = x.at(rack, place);
            }
        }
        for (int what = 0; what < 8; what++) {
            told[n++] = x.ordered(0, what);
            told[n++] = x.ordered(1, what);
            told[n++] = x.ordered(2, what);
        }
        for (int what = 0; what < 6; what++) {
            told[n++] = x.sheet(0, what);
            told[n++] = x.sheet(1, what);
        }
        return told;
    }

    private static void promise15Keep() {
        GlassRacks x = new GlassRacks();
        due("keep at day 0", x.keep(), 0);
        due("is no act", x.count(13), 0);
        x.pass(8);
        due("keep at day 8", x.keep(), 8);
        x.pass(2);
        due("the later snapshot is in place of the first", x.restore(), 8);
        x.pass(5);
        x.keep();
        x.undo();
        due("undo leaves the snapshot", x.restore(), 13);
        Due.typeAll(x, "d1");
        due("the text is no part of it", x.restore(), 13);
        due("its length", x.count(14), 2);
    }

    private static void promise16Restore() {
        GlassRacks x = new GlassRacks();
        due("no snapshot", x.restore(), NONE);
        due("is no act", x.count(13), 0);
        x.buy(0, 0, 60, 60);
        x.order(0, 20, 20, 1);
        x.set(2, 1);
        x.keep();
        x.cut(0, 0);
        x.pass(3);
        x.set(2, 0);
        due("restore", x.restore(), 0);
        due("the sheet is back", x.sheet(0, 1), 60);
        due("the pieces are not", x.sheet(1, 1), UNKNOWN);
        due("the order is open", x.ordered(0, 4), 0);
        due("the setting is back", x.count(22), 1);
        due("an act", x.count(13), 4);
        due("undo of it", x.undo(), 3);
        due("the day then", x.count(0), 3);
        due("the pieces then", x.sheet(1, 5), 0);
        due("the snapshot stays", x.restore(), 0);
        due("and stays", x.restore(), 0);
        x.cut(0, 0);
        due("acts do not change it", x.restore(), 0);
        due("open in it", x.ordered(0, 4), 0);
    }

    private static void promise24Count() {
        GlassRacks x = new GlassRacks();
        for (int wrong : new int[] {-1, 15, 16, 19, 25, 26, 100, Integer.MIN_VALUE, Integer.MIN_VALUE + 20, Integer.MAX_VALUE}) {
            due("count " + wrong, x.count(wrong), BAD_VALUE);
        }
        x.buy(0, 0, 60, 40);
        x.buy(0, 1, 30, 30);
        x.order(0, 25, 35, 0);
        x.order(1, 5, 5, 0);
        x.order(1, 5, 6, 9);
        x.order(2, 5, 6, 9);
        x.pass(2);
        x.cut(0, 0);
        x.cancel(3);
        x.set(3, 5);
        x.buy(3, 2, 7, 8);
        x.move(1, 2);
        x.scrap(3);
        Due.typeAll(x, "d1;");
        int beside = 34 * 35;
        int scrap = 60 * 4;
        int[] want = {2, 2, beside + 900, 2400 + 900 + 56, 875, scrap, 56, 2400 - 875 - beside - scrap, 5, 4, 2, 2, 4, 4, 3};
        due("sheet 3 broke", x.sheet(3, 0), UNKNOWN);
        for (int what = 0; what < want.length; what++) {
            due("count " + what, x.count(what), want[what]);
        }
        x.set(0, 5);
        x.set(1, 99);
        x.set(2, 1);
        x.set(4, 0);
        int[] settings = {5, 99, 1, 5, 0};
        for (int what = 0; what < 5; what++) {
            due("setting " + what, x.count(20 + what), settings[what]);
        }
    }
}
