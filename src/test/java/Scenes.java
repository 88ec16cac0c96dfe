/** Objects at the edges of the document, made by few calls, since an object is promised for 512 calls only. */
final class Scenes {
    interface Making {
        GlassRacks make();
    }

    interface Call {
        int on(GlassRacks x);
    }

    private Scenes() {
    }

    /** Empty racks and a number of sheets that have been; day 0, first settings, no text. */
    static GlassRacks sheetsEver(int sheets) {
        GlassRacks x = new GlassRacks();
        x.set(3, 1);
        Due.typeAll(x, "s0:0,9x9;s0:0,9x9;s0:0,9x9;s0:0,9x9;s0:0,9x9;s0:0,9x9");
        while (x.count(12) + 6 <= sheets) {
            x.perform();
            // With a fragility of 1 all six break when the rearmost one is taken out.
            x.scrap(x.at(0, 5));
        }
        while (x.count(12) < sheets) {
            x.buy(0, 0, 9, 9);
            x.scrap(x.at(0, 0));
        }
        x.set(3, 0);
        x.clearText();
        Due.due("sheets so far in the scene", x.count(12), sheets);
        Due.due("sheets in racks in the scene", x.count(1), 0);
        return x;
    }

    /** An object at a day. */
    static GlassRacks atDay(int day) {
        GlassRacks x = new GlassRacks();
        while (x.count(0) < day) {
            x.pass(Math.min(99, day - x.count(0)));
        }
        Due.due("the day of the scene", x.count(0), day);
        return x;
    }

    /** A rack 0 with some sheets of 50 times 50, of the sort 0; sheet 0 is the rearmost one. */
    static GlassRacks rackOf(int sheets) {
        GlassRacks x = new GlassRacks();
        for (int i = 0; i < sheets; i++) {
            x.buy(0, 0, 50, 50);
        }
        return x;
    }

    /** One sheet in rack 0 and one order by day 0, both of the sort 0. */
    static GlassRacks oneCut(int sheetWidth, int sheetHeight, int paneWidth, int paneHeight) {
        GlassRacks x = new GlassRacks();
        x.buy(0, 0, sheetWidth, sheetHeight);
        x.order(0, paneWidth, paneHeight, 0);
        return x;
    }

    /**
     * Something of everything: at day 3 a full rack 0 (sheets 0 to 7, sheet 7 of the sort 1), sheet 8 in rack 1
     * and the pieces 10 and 11 of sheet 9 in rack 2; open orders 0 (late), 1 and 5, of which the last one fits no
     * sheet, 2 cancelled, 3 cut from sheet 9, 4 open and of a sort without sheets; a snapshot of day 2, a full
     * history, a text of two commands, and settings that are not the first ones.
     */
    static GlassRacks busy() {
        GlassRacks x = new GlassRacks();
        for (int i = 0; i < 7; i++) {
            x.buy(0, 0, 40 + i, 50);
        }
        x.buy(0, 1, 60, 60);
        x.buy(1, 0, 70, 30);
        x.buy(2, 0, 80, 80);
        x.order(0, 20, 30, 1);
        x.order(0, 25, 10, 9);
        x.order(0, 10, 10, 9);
        x.order(0, 30, 30, 2);
        x.order(2, 5, 5, 9);
        x.order(0, 99, 99, 9);
        x.set(0, 2);
        x.cut(3, 9);
        x.cancel(2);
        x.pass(2);
        x.keep();
        x.set(2, 1);
        x.set(1, 8);
        x.pass(1);
        x.set(3, 4);
        Due.typeAll(x, "d1;p0");
        return x;
    }
}
