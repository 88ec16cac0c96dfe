/** Promises 1 to 5, 17 and 18: a new object, set, buy, move, scrap, sheet, at. */
public final class SheetsTest {
    private static final int UNKNOWN = GlassRacks.UNKNOWN;
    private static final int BAD_VALUE = GlassRacks.BAD_VALUE;
    private static final int FULL = GlassRacks.FULL;
    private static final int NONE = GlassRacks.NONE;
    private static final int LOW = Integer.MIN_VALUE;
    private static final int HIGH = Integer.MAX_VALUE;

    private SheetsTest() {
    }

    public static void main(String[] args) {
        promise1NewObject();
        promise2Set();
        promise3Buy();
        promise3TwoHundredSheets();
        promise4Move();
        promise4MoveBreaks();
        promise5Scrap();
        promise17Sheet();
        promise18At();
        Due.finish();
    }

    private static void due(String call, long got, long want) {
        Due.due(call, got, want);
    }

    private static void promise1NewObject() {
        GlassRacks x = new GlassRacks();
        for (int what = 0; what <= 14; what++) {
            due("new count " + what, x.count(what), 0);
        }
        due("new cut width", x.count(20), 1);
        due("new least side", x.count(21), 10);
        due("new manner", x.count(22), 0);
        due("new fragility", x.count(23), 0);
        due("new turning", x.count(24), 1);
        for (int rack = 0; rack < 4; rack++) {
            due("new at " + rack, x.at(rack, 0), NONE);
        }
        due("new sheet", x.sheet(0, 0), UNKNOWN);
        due("new ordered", x.ordered(0, 0), UNKNOWN);
        due("new next", x.next(0), NONE);
        due("new undo", x.undo(), NONE);
        due("new restore", x.restore(), NONE);
        due("new clearText", x.clearText(), 0);
        due("new keep", x.keep(), 0);
        GlassRacks other = new GlassRacks();
        x.buy(0, 0, 5, 5);
        due("another object is empty", other.count(1), 0);
    }

    private static void promise2Set() {
        int[] first = {1, 10, 0, 0, 1};
        int[] least = {0, 1, 0, 0, 0};
        int[] greatest = {5, 99, 1, 50, 1};
        for (int what = 0; what < 5; what++) {
            GlassRacks x = new GlassRacks();
            due("set too small " + what, x.set(what, least[what] - 1), BAD_VALUE);
            due("set too great " + what, x.set(what, greatest[what] + 1), BAD_VALUE);
            due("set lowest " + what, x.set(what, LOW), BAD_VALUE);
            due("set highest " + what, x.set(what, HIGH), BAD_VALUE);
            due("set same " + what, x.set(what, first[what]), NONE);
            due("errors and NONE record nothing", x.count(13), 0);
            int other = first[what] == greatest[what] ? least[what] : greatest[what];
            due("set other " + what, x.set(what, other), first[what]);
            due("set told " + what, x.count(20 + what), other);
            due("set recorded " + what, x.count(13), 1);
            int back = other == greatest[what] ? least[what] : greatest[what];
            due("set back " + what, x.set(what, back), other);
            due("set back told " + what, x.count(20 + what), back);
            for (int rest = 0; rest < 5; rest++) {
                due("the others stay", x.count(20 + rest), rest == what ? back : first[rest]);
            }
            x.undo();
            due("set undone " + what, x.count(20 + what), other);
        }
        GlassRacks x = new GlassRacks();
        for (int what : new int[] {-1, 5, LOW, HIGH}) {
            due("set what " + what, x.set(what, 1), BAD_VALUE);
        }
    }

    private static void promise3Buy() {
        GlassRacks x = new GlassRacks();
        due("buy least", x.buy(0, 0, 1, 1), 0);
        due("buy greatest", x.buy(3, 2, 99, 99), 1);
        due("buy in front", x.buy(0, 1, 2, 3), 2);
        due("front", x.at(0, 0), 2);
        due("behind it", x.at(0, 1), 0);
        due("bought area", x.count(3), 1 + 99 * 99 + 6);
        due("area there", x.count(2), 1 + 99 * 99 + 6);
        due("sheets there", x.count(1), 3);
        due("sheets ever", x.count(12), 3);
        due("acts", x.count(13), 3);
        for (int wrong : new int[] {-1, 4, LOW, HIGH}) {
            due("buy rack " + wrong, x.buy(wrong, 0, 0, 1), UNKNOWN);
        }
        for (int wrong : new int[] {-1, 3, LOW, HIGH}) {
            due("buy sort " + wrong, x.buy(0, wrong, 0, 1), UNKNOWN);
        }
        for (int wrong : new int[] {0, -1, 100, LOW, HIGH}) {
            due("buy width " + wrong, x.buy(0, 0, wrong, 1), BAD_VALUE);
            due("buy height " + wrong, x.buy(0, 0, 1, wrong), BAD_VALUE);
        }
        due("errors record nothing", x.count(13), 3);
        for (int i = 0; i < 6; i++) {
            due("buy to the eighth", x.buy(0, 0, 9, 9), 3 + i);
        }
        due("buy BAD_VALUE before FULL", x.buy(0, 0, 0, 9), BAD_VALUE);
        due("buy a ninth", x.buy(0, 0, 9, 9), FULL);
        due("buy a ninth changes nothing", x.count(12), 9);
        due("buy into another rack", x.buy(1, 0, 9, 9), 9);
    }

    private static void promise3TwoHundredSheets() {
        GlassRacks x = new GlassRacks();
        for (int i = 0; i < 198; i++) {
            due("buy " + i, x.buy(0, 0, 50, 50), i);
            due("scrap " + i, x.scrap(i), 2500);
        }
        x.buy(0, 0, 50, 50);
        x.order(0, 20, 20, 5);
        x.keep();
        due("a cut at 199: one piece is kept", x.cut(0, 198), 1);
        due("it is the piece beside", x.sheet(199, 1), 29);
        due("its height", x.sheet(199, 2), 20);
        due("the piece above is scrap", x.count(5), 198 * 2500 + 50 * 29);
        due("there is no more", x.at(0, 1), NONE);
        due("200 sheets", x.count(12), 200);
        due("buy behind 200", x.buy(1, 0, 1, 1), FULL);
        x.restore();
        due("199 sheets again", x.count(12), 199);
        due("buy the 200th", x.buy(1, 0, 1, 1), 199);
        due("buy the 201st", x.buy(1, 0, 1, 1), FULL);
        due("would does not mind 200 sheets", x.would(0, 198, 3), 29 * 20 + 50 * 29);
        due("no piece is kept behind 200", x.cut(0, 198), 0);
        due("a move goes on behind 200", x.move(199, 3), 1);
    }

    private static void promise4Move() {
        GlassRacks x = new GlassRacks();
        for (int i = 0; i < 4; i++) {
            x.buy(0, 0, 10 + i, 10);
        }
        due("move the third from the front", x.move(1, 2), 3);
        due("it is there", x.at(2, 0), 1);
        due("the others keep their order", x.at(0, 0), 3);
        due("the others keep their order", x.at(0, 1), 2);
        due("the others keep their order", x.at(0, 2), 0);
        due("nothing behind", x.at(0, 3), NONE);
        due("liftings", x.count(8), 3);
        due("move in its own rack", x.move(0, 0), 3);
        due("it is at the front", x.at(0, 0), 0);
        due("behind it", x.at(0, 1), 3);
        due("behind that", x.at(0, 2), 2);
        due("move the front one in its own rack", x.move(0, 0), 1);
        due("it is still there", x.at(0, 0), 0);
        due("liftings", x.count(8), 7);
        due("each was an act", x.count(13), 4);
        due("move sheet -1", x.move(-1, 0), UNKNOWN);
        due("move sheet 4", x.move(4, 0), UNKNOWN);
        due("move lowest", x.move(LOW, 0), UNKNOWN);
        due("move highest", x.move(HIGH, 0), UNKNOWN);
        for (int wrong : new int[] {-1, 4, LOW, HIGH}) {
            due("move to rack " + wrong, x.move(0, wrong), UNKNOWN);
        }
        for (int i = 0; i < 5; i++) {
            x.buy(0, 0, 1, 1);
        }
        due("move into a full rack", x.move(1, 0), FULL);
        due("which changes nothing", x.count(8), 7);
        due("move a gone sheet to a full rack", x.move(99, 0), UNKNOWN);
        due("move within a full rack", x.move(2, 0), 8);
        due("its front", x.at(0, 0), 2);
        due("out of a full rack", x.move(2, 1), 1);
        due("now there is room", x.move(1, 0), 1);
        due("its front", x.at(0, 0), 1);
        x.undo();
        due("undone", x.at(2, 0), 1);
        due("liftings undone", x.count(8), 16);
    }

    private static void promise4MoveBreaks() {
        GlassRacks x = new GlassRacks();
        for (int i = 0; i < 5; i++) {
            x.buy(0, 0, 10 + i, 10);
        }
        x.set(3, 2);
        due("every second lifting breaks", x.move(0, 1), 5);
        due("liftings are counted", x.count(8), 5);
        due("broken 3 and 1", x.count(6), 130 + 110);
        due("front", x.at(0, 0), 4);
        due("behind", x.at(0, 1), 2);
        due("no more", x.at(0, 2), NONE);
        due("moved", x.at(1, 0), 0);
        due("the sheet itself breaks at the sixth", x.move(0, 0), 1);
        due("it is gone", x.sheet(0, 0), UNKNOWN);
        due("it was not put there", x.at(0, 0), 4);
        due("nor left", x.at(1, 0), NONE);
        due("broken", x.count(6), 130 + 110 + 100);
        x.set(3, 1);
        due("all break", x.move(2, 3), 2);
        due("none is left", x.count(1), 0);
        due("all area is broken", x.count(6), x.count(3));
        x.undo();
        due("what broke is back", x.count(1), 2);

        x = new GlassRacks();
        x.set(3, 50);
        x.buy(0, 0, 7, 7);
        for (int i = 1; i < 50; i++) {
            due("lifting " + i, x.move(0, 0), 1);
        }
        due("whole so far", x.count(6), 0);
        due("the fiftieth", x.move(0, 0), 1);
        due("it broke", x.count(6), 49);
    }

    private static void promise5Scrap() {
        GlassRacks x = new GlassRacks();
        x.buy(1, 0, 10, 20);
        x.buy(1, 0, 3, 4);
        due("scrap from behind", x.scrap(0), 200);
        due("scrap so far", x.count(5), 200);
        due("liftings", x.count(8), 2);
        due("the other is there", x.at(1, 0), 1);
        due("scrap again", x.scrap(0), UNKNOWN);
        for (int wrong : new int[] {-1, 2, LOW, HIGH}) {
            due("scrap " + wrong, x.scrap(wrong), UNKNOWN);
        }
        due("errors lift nothing", x.count(8), 2);
        due("acts", x.count(13), 3);
        x.set(3, 3);
        due("scrap and break", x.scrap(1), 12);
        due("that is broken", x.count(6), 12);
        due("not scrap", x.count(5), 200);
        due("gone", x.count(1), 0);
        x.undo();
        x.buy(1, 0, 5, 5);
        due("one before it breaks", x.scrap(1), 12);
        due("scrap", x.count(5), 212);
        due("broken", x.count(6), 25);
    }

    private static void promise17Sheet() {
        GlassRacks x = new GlassRacks();
        x.buy(2, 1, 60, 40);
        x.buy(2, 0, 70, 30);
        int[] rear = {1, 60, 40, 2, 1, NONE};
        int[] front = {0, 70, 30, 2, 0, NONE};
        for (int what = 0; what < 6; what++) {
            due("sheet 0 " + what, x.sheet(0, what), rear[what]);
            due("sheet 1 " + what, x.sheet(1, what), front[what]);
        }
        for (int wrong : new int[] {-1, 6, LOW, HIGH}) {
            due("sheet what " + wrong, x.sheet(0, wrong), BAD_VALUE);
            due("sheet " + wrong, x.sheet(wrong, 9), UNKNOWN);
        }
        x.order(1, 20, 20, 0);
        x.cut(0, 0);
        due("the cut sheet is gone", x.sheet(0, 0), UNKNOWN);
        int[] beside = {1, 39, 20, 2, 1, 0};
        int[] above = {1, 60, 19, 2, 0, 0};
        for (int what = 0; what < 6; what++) {
            due("the piece beside " + what, x.sheet(2, what), beside[what]);
            due("the piece above " + what, x.sheet(3, what), above[what]);
        }
        x.move(2, 0);
        due("a moved piece keeps its source", x.sheet(2, 5), 0);
        due("and has another rack", x.sheet(2, 3), 0);
        due("told things are no acts", x.count(13), 4);
    }

    private static void promise18At() {
        GlassRacks x = new GlassRacks();
        for (int i = 0; i < 8; i++) {
            x.buy(3, 0, 1, 1);
        }
        for (int place = 0; place < 8; place++) {
            due("at 3 " + place, x.at(3, place), 7 - place);
        }
        due("at 3 8", x.at(3, 8), NONE);
        due("at 3 highest", x.at(3, HIGH), NONE);
        due("at 3 -1", x.at(3, -1), BAD_VALUE);
        due("at 3 lowest", x.at(3, LOW), BAD_VALUE);
        due("at 2 0", x.at(2, 0), NONE);
        x.buy(2, 0, 1, 1);
        for (int i = 0; i < 8; i++) {
            x.buy(1, 0, 1, 1);
        }
        due("at 2 0 with a sheet", x.at(2, 0), 8);
        due("at 2 1, not the front of the full rack 1", x.at(2, 1), NONE);
        due("at 2 7, not the rear of the full rack 3", x.at(2, 7), NONE);
        for (int wrong : new int[] {-1, 4, LOW, HIGH}) {
            due("at rack " + wrong, x.at(wrong, -1), UNKNOWN);
        }
    }
}
