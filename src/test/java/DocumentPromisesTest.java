/** The promises from the first to the last: of each the first sentence, the arguments and the line of what it returns. */
public final class DocumentPromisesTest {
    private static final int UNKNOWN = GlassRacks.UNKNOWN;
    private static final int BAD_VALUE = GlassRacks.BAD_VALUE;
    private static final int FULL = GlassRacks.FULL;
    private static final int NOT_POSSIBLE = GlassRacks.NOT_POSSIBLE;
    private static final int NONE = GlassRacks.NONE;

    private DocumentPromisesTest() {
    }

    public static void main(String[] args) {
        Document document = new Document("## Promise 1", "## Not promised");
        newObject(document);
        set(document);
        buy(document);
        move(document);
        scrap(document);
        order(document);
        cancel(document);
        cut(document);
        plan(document);
        pass(document);
        perform(document);
        type(document);
        clearText(document);
        undo(document);
        keep(document);
        restore(document);
        sheet(document);
        at(document);
        ordered(document);
        would(document);
        choice(document);
        next(document);
        wouldPlan(document);
        count(document);
        document.isReadToItsEnd();
        Due.finish();
    }

    private static void due(String call, long got, long want) {
        Due.due(call, got, want);
    }

    /** That the call is an act on the scene: it records one state, which undo brings back. */
    private static void thisIsAnAct(Document document, Scenes.Call call) {
        document.says("This is an act.");
        Told.act("the call", Scenes::busy, call);
    }

    private static void newObject(Document document) {
        document.says("`GlassRacks()`: Creates empty racks, at the day 0.");
        GlassRacks x = new GlassRacks();
        for (int what = 0; what <= 14; what++) {
            due("count(" + what + ")", x.count(what), 0);
        }
        int[] settings = {1, 10, 0, 0, 1};
        for (int what = 0; what < 5; what++) {
            due("setting " + what, x.count(20 + what), settings[what]);
        }
        for (int rack = 0; rack < 4; rack++) {
            due("rack " + rack, x.at(rack, 0), NONE);
        }
        due("no history", x.undo(), NONE);
        due("no snapshot", x.restore(), NONE);
        due("no text", x.clearText(), 0);
        due("no order", x.next(0), NONE);
    }

    private static void set(Document document) {
        document.says("`int set(int what, int value)`: Sets a number.");
        GlassRacks x = new GlassRacks();
        due("the width of a cut", x.set(0, 4), 1);
        due("it is set", x.count(20), 4);
        thisIsAnAct(document, y -> y.set(0, 4));

        document.says("`what`: 0 for the width of a cut (0 to 5), 1 for the least side (1 to 99), 2 for the manner (0 or 1), 3 for the "
            + "fragility (0 to 50), 4 for whether turning is allowed (1) or not (0)");
        int[] least = {0, 1, 0, 0, 0};
        int[] greatest = {5, 99, 1, 50, 1};
        for (int what = 0; what < 5; what++) {
            x = new GlassRacks();
            due("below", x.set(what, least[what] - 1), BAD_VALUE);
            due("above", x.set(what, greatest[what] + 1), BAD_VALUE);
            x.set(what, least[what]);
            due("the least one is set", x.count(20 + what), least[what]);
            due("the greatest one", x.set(what, greatest[what]), least[what]);
            due("it is set", x.count(20 + what), greatest[what]);
            due("the least one again", x.set(what, least[what]), greatest[what]);
        }
        due("no such number", x.set(5, 1), BAD_VALUE);
        due("no such number", x.set(-1, 1), BAD_VALUE);
        for (int value = -5; value < 0; value++) {
            due("no such number, as its value is", x.set(5, value), BAD_VALUE);
        }

        document.says("`value`: the new number");
        x = new GlassRacks();
        due("a new one", x.set(3, 7), 0);
        due("a new one again", x.set(3, 9), 7);
        due("it is set", x.count(23), 9);

        document.says("Returns the previous one; BAD_VALUE; NONE if it is so already.");
        due("the previous one", x.set(3, 0), 9);
        due("none of the numbers", x.set(3, 51), BAD_VALUE);
        due("so already", x.set(3, 0), NONE);
    }

    private static void buy(Document document) {
        document.says("`int buy(int rack, int sort, int width, int height)`: Buys a sheet, which comes to the front of a rack.");
        GlassRacks x = new GlassRacks();
        due("a sheet", x.buy(2, 1, 30, 20), 0);
        due("another one", x.buy(2, 2, 40, 9), 1);
        due("it is at the front", x.at(2, 0), 1);
        due("the first one is behind it", x.at(2, 1), 0);
        due("bought", x.count(3), 600 + 360);
        thisIsAnAct(document, y -> y.buy(3, 2, 1, 99));

        document.says("`rack`: 0 to 3");
        due("rack -1", x.buy(-1, 0, 9, 9), UNKNOWN);
        due("rack 4", x.buy(4, 0, 9, 9), UNKNOWN);
        due("rack 0", x.buy(0, 0, 9, 9), 2);
        due("rack 3", x.buy(3, 0, 9, 9), 3);
        document.says("`sort`: 0 to 2");
        due("sort -1", x.buy(0, -1, 9, 9), UNKNOWN);
        due("sort 3", x.buy(0, 3, 9, 9), UNKNOWN);
        due("sort 2", x.buy(0, 2, 9, 9), 4);
        document.says("`width`: 1 to 99");
        due("width 0", x.buy(0, 0, 0, 9), BAD_VALUE);
        due("width 100", x.buy(0, 0, 100, 9), BAD_VALUE);
        due("width 1", x.buy(0, 0, 1, 9), 5);
        due("width 99", x.buy(0, 0, 99, 9), 6);
        document.says("`height`: 1 to 99");
        due("height 0", x.buy(0, 0, 9, 0), BAD_VALUE);
        due("height 100", x.buy(0, 0, 9, 100), BAD_VALUE);
        due("height 1", x.buy(0, 0, 9, 1), 7);
        due("height 99", x.buy(0, 0, 9, 99), 8);

        document.says("Returns its number; UNKNOWN (rack or sort); BAD_VALUE; FULL if the rack has 8 sheets, or there have been 200.");
        x = Scenes.rackOf(7);
        due("its number", x.buy(0, 0, 9, 9), 7);
        due("8 sheets", x.buy(0, 0, 9, 9), FULL);
        due("8 sheets, a height of 0", x.buy(0, 0, 9, 0), BAD_VALUE);
        due("a sort of 3, a height of 0", x.buy(0, 3, 9, 0), UNKNOWN);
        x = Scenes.sheetsEver(199);
        due("the last one", x.buy(3, 0, 9, 9), 199);
        due("200 sheets", x.buy(3, 0, 9, 9), FULL);
    }

    private static void move(Document document) {
        document.says("`int move(int sheet, int rack)`: Moves a sheet to the front of a rack (perhaps its own one): it is taken out, and "
            + "put there, if it does not break.");
        GlassRacks x = Scenes.rackOf(3);
        due("to its own rack", x.move(1, 0), 2);
        int[] order = {1, 2, 0};
        for (int place = 0; place < 3; place++) {
            due("place " + place, x.at(0, place), order[place]);
        }
        due("to another rack", x.move(0, 3), 3);
        due("it is there", x.at(3, 0), 0);
        due("it is not here", x.at(0, 2), NONE);
        due("each lifting breaks", x.set(3, 1), 0);
        due("it breaks", x.move(2, 3), 2);
        due("it is not put there", x.at(3, 0), 0);
        due("nor there", x.sheet(2, 0), UNKNOWN);
        thisIsAnAct(document, y -> y.move(3, 3));

        document.says("`sheet`: a sheet that is in a rack");
        due("one that broke", x.move(2, 0), UNKNOWN);
        due("one that is not yet", x.move(3, 0), UNKNOWN);
        due("-1", x.move(-1, 0), UNKNOWN);
        document.says("`rack`: 0 to 3");
        due("rack -1", x.move(0, -1), UNKNOWN);
        due("rack 4", x.move(0, 4), UNKNOWN);

        document.says("Returns how many sheets were lifted; UNKNOWN (sheet or rack); FULL if it is another rack, which has 8 sheets.");
        x = Scenes.rackOf(8);
        x.buy(1, 0, 9, 9);
        due("the rearmost one of 8", x.move(0, 0), 8);
        due("another rack, which has 8", x.move(8, 0), FULL);
        due("no such sheet", x.move(9, 0), UNKNOWN);
        due("one less", x.scrap(0), 2500);
        due("7 sheets", x.move(8, 0), 1);
    }

    private static void scrap(Document document) {
        document.says("`int scrap(int sheet)`: Scraps a sheet: it is taken out, and its area is scrap, if it does not break.");
        GlassRacks x = Scenes.rackOf(3);
        due("the rearmost one", x.scrap(0), 2500);
        due("lifted", x.count(8), 3);
        due("scrap", x.count(5), 2500);
        due("it is gone", x.sheet(0, 0), UNKNOWN);
        due("each lifting breaks", x.set(3, 1), 0);
        due("it breaks, and the one before it", x.scrap(1), 2500);
        due("broken", x.count(6), 5000);
        due("no more scrap", x.count(5), 2500);
        thisIsAnAct(document, y -> y.scrap(7));

        document.says("`sheet`: a sheet that is in a rack");
        due("one that is gone", x.scrap(1), UNKNOWN);
        due("one that is not yet", x.scrap(3), UNKNOWN);
        due("-1", x.scrap(-1), UNKNOWN);

        document.says("Returns its area; UNKNOWN.");
        x = new GlassRacks();
        x.buy(0, 0, 12, 34);
        due("no such sheet", x.scrap(1), UNKNOWN);
        due("its area", x.scrap(0), 408);
        due("no sheet any more", x.scrap(0), UNKNOWN);
    }

    private static void order(Document document) {
        document.says("`int order(int sort, int width, int height, int day)`: Takes an order.");
        GlassRacks x = new GlassRacks();
        due("an order", x.order(1, 30, 20, 4), 0);
        due("it is open", x.ordered(0, 4), 0);
        due("orders so far", x.count(9), 1);
        thisIsAnAct(document, y -> y.order(2, 1, 99, 0));

        document.says("`sort`: 0 to 2");
        due("sort -1", x.order(-1, 9, 9, 0), UNKNOWN);
        due("sort 3", x.order(3, 9, 9, 0), UNKNOWN);
        due("sort 0", x.order(0, 9, 9, 0), 1);
        due("sort 2", x.order(2, 9, 9, 0), 2);
        document.says("`width`: 1 to 99");
        due("width 0", x.order(0, 0, 9, 0), BAD_VALUE);
        due("width 100", x.order(0, 100, 9, 0), BAD_VALUE);
        due("width 1", x.order(0, 1, 9, 0), 3);
        due("width 99", x.order(0, 99, 9, 0), 4);
        document.says("`height`: 1 to 99");
        due("height 0", x.order(0, 9, 0, 0), BAD_VALUE);
        due("height 100", x.order(0, 9, 100, 0), BAD_VALUE);
        due("height 1", x.order(0, 9, 1, 0), 5);
        due("height 99", x.order(0, 9, 99, 0), 6);
        document.says("`day`: 0 to 999");
        due("day -1", x.order(0, 9, 9, -1), BAD_VALUE);
        due("day 1000", x.order(0, 9, 9, 1000), BAD_VALUE);
        due("day 999", x.order(0, 9, 9, 999), 7);
        x.pass(9);
        due("day 0, which is behind", x.order(0, 9, 9, 0), 8);

        document.says("Returns its number; UNKNOWN (sort); BAD_VALUE; FULL if there have been 12.");
        for (int number = 9; number < 12; number++) {
            due("its number", x.order(0, 9, 9, 9), number);
        }
        due("12 orders", x.order(0, 9, 9, 9), FULL);
        due("12 orders, a bad day", x.order(0, 9, 9, 1000), BAD_VALUE);
        due("a bad sort, a bad day", x.order(3, 9, 9, 1000), UNKNOWN);
    }

    private static void cancel(Document document) {
        document.says("`int cancel(int order)`: Cancels an order.");
        GlassRacks x = new GlassRacks();
        for (int number = 0; number < 3; number++) {
            x.order(0, 9, 9, 0);
        }
        due("cancelled", x.cancel(1), 2);
        due("it is", x.ordered(1, 4), 2);
        thisIsAnAct(document, y -> y.cancel(5));

        document.says("`order`: an open order");
        due("order -1", x.cancel(-1), UNKNOWN);
        due("order 3", x.cancel(3), UNKNOWN);
        due("one that is cancelled", x.cancel(1), NOT_POSSIBLE);

        document.says("Returns how many orders are open then; UNKNOWN; NOT_POSSIBLE if it is not open.");
        x.buy(0, 0, 9, 9);
        x.cut(0, 0);
        due("one that is cut", x.cancel(0), NOT_POSSIBLE);
        due("the last open one", x.cancel(2), 0);
        due("no such order", x.cancel(12), UNKNOWN);
    }

    private static void cut(Document document) {
        document.says("`int cut(int order, int sheet)`: Cuts an order from a sheet.");
        GlassRacks x = Scenes.oneCut(60, 40, 25, 20);
        due("two pieces", x.cut(0, 0), 2);
        due("cut", x.ordered(0, 4), 1);
        due("from the sheet", x.ordered(0, 5), 0);
        due("which is gone", x.sheet(0, 0), UNKNOWN);
        thisIsAnAct(document, y -> y.cut(1, 0));

        document.says("`order`: an order");
        due("order -1", x.cut(-1, 1), UNKNOWN);
        due("order 1", x.cut(1, 1), UNKNOWN);
        document.says("`sheet`: a sheet that is in a rack");
        x.order(0, 25, 20, 0);
        due("one that was cut", x.cut(1, 0), UNKNOWN);
        due("one that is not yet", x.cut(1, 3), UNKNOWN);
        due("-1", x.cut(1, -1), UNKNOWN);

        document.says("Returns how many pieces are kept, 10 if the sheet breaks; UNKNOWN (order or sheet); NOT_POSSIBLE if the order is "
            + "not open, or cannot be cut from it.");
        due("no such sheet for one that is cut", x.cut(0, 0), UNKNOWN);
        due("one that is cut", x.cut(0, 1), NOT_POSSIBLE);
        x.order(0, 61, 1, 0);
        due("one that does not fit", x.cut(2, 2), NOT_POSSIBLE);
        due("no piece is kept", x.cut(1, 1), 0);
        x.order(0, 10, 8, 0);
        due("one piece is kept", x.cut(3, 2), 1);
        x.order(0, 9, 9, 0);
        x.set(3, 1);
        due("it breaks", x.cut(4, 3), 10);
        due("the order stays open", x.ordered(4, 4), 0);
    }

    private static void plan(Document document) {
        document.says("`int plan(int choice)`: Does a plan.");
        GlassRacks x = new GlassRacks();
        x.buy(0, 0, 30, 30);
        x.buy(1, 0, 20, 20);
        x.order(0, 20, 20, 1);
        x.order(0, 30, 30, 2);
        due("both are cut", x.plan(0), 2);
        due("the former one", x.ordered(0, 5), 1);
        due("the latter one", x.ordered(1, 5), 0);
        thisIsAnAct(document, y -> y.plan(2));

        document.says("`choice`: 0 to 2");
        x.order(0, 9, 9, 0);
        due("choice -1", x.plan(-1), BAD_VALUE);
        due("choice 3", x.plan(3), BAD_VALUE);
        for (int choice = 0; choice <= 2; choice++) {
            due("choice " + choice + ", no sheets", x.plan(choice), 0);
        }

        document.says("Returns how many orders are cut by it; BAD_VALUE; NONE if no order is open.");
        x.buy(0, 0, 9, 9);
        due("one", x.plan(1), 1);
        due("no order is open", x.plan(1), NONE);
        due("nor for no choice", x.plan(3), BAD_VALUE);
    }

    private static void pass(Document document) {
        document.says("`int pass(int days)`: Lets days pass.");
        GlassRacks x = new GlassRacks();
        due("days pass", x.pass(5), 0);
        due("the day", x.count(0), 5);
        thisIsAnAct(document, y -> y.pass(1));

        document.says("`days`: 1 to 99");
        due("no day", x.pass(0), BAD_VALUE);
        due("-1 days", x.pass(-1), BAD_VALUE);
        due("100 days", x.pass(100), BAD_VALUE);
        due("1 day", x.pass(1), 0);
        due("99 days", x.pass(99), 0);
        due("the day", x.count(0), 105);

        document.says("Returns how many orders become late in them (open ones whose day lies behind then, and did not before); BAD_VALUE; "
            + "FULL if the day would become more than 999.");
        x = Scenes.atDay(900);
        int[] days = {899, 900, 901, 909, 910, 900};
        for (int day : days) {
            x.order(0, 9, 9, day);
        }
        x.cancel(5);
        due("orders become late", x.pass(10), 3);
        due("late ones", x.count(11), 4);
        due("beyond day 999", x.pass(90), FULL);
        due("beyond it, no such days", x.pass(100), BAD_VALUE);
        due("to day 999", x.pass(89), 1);
        due("one more", x.pass(1), FULL);
    }

    private static void perform(Document document) {
        document.says("`int perform()`: Does the commands of the text, which stays, one after the other; all of them, or none.");
        GlassRacks x = new GlassRacks();
        due("commands", Due.performed(x, "s1:2,30x20;o2,20x30@4;d9;p1"), 4);
        due("the text stays", x.count(14), 27);
        due("the sheet was bought first, the order cut last", x.ordered(0, 6), 9);
        due("it is cut from it", x.ordered(0, 5), 0);
        due("none of them", Due.performed(x, "d1;s1:0,9x9;d99;d99;d99;d99;d99;d99;d99;d99;d99;d99;d99"), FULL);
        due("no day passed", x.count(0), 9);
        due("no sheet bought", x.count(12), 1);

        document.says("This is one act.");
        due("one state", x.count(13), 1);
        due("undone", x.undo(), 0);
        due("no sheet", x.count(12), 0);
        due("no order", x.count(9), 0);
        due("the first day", x.count(0), 0);
        Told.act("two commands", Scenes::busy, y -> y.perform());

        document.says("(A plan that would return NONE does nothing.)");
        x = new GlassRacks();
        due("a plan of no order", x.plan(0), NONE);
        due("in a text", Due.performed(x, "p0;d3;p2"), 3);
        due("days pass", x.count(0), 3);

        document.says("Returns how many there are; -100 minus the fault of the text if it has one (which is an error); otherwise the error "
            + "of the first command that has one when its turn comes.");
        due("how many", Due.performed(x, "p0"), 1);
        due("the fault of a text", Due.performed(x, "d1;p3"), -104);
        due("no day passed", x.count(0), 3);
        due("no more states", x.count(13), 2);
        due("a fault behind a command that has an error", Due.performed(x, "d99;d99;d99;d99;d99;d99;d99;d99;d99;d99;d99;x"), -144);
        x = Scenes.rackOf(8);
        due("the error when its turn comes", Due.performed(x, "s0:0,9x9"), FULL);
        due("room is made before", Due.performed(x, "o0,50x50@9;p1;s0:0,9x9"), 3);
    }

    private static void type(Document document) {
        document.says("`int type(char character)`: Types a character behind the text.");
        GlassRacks x = new GlassRacks();
        due("d", x.type('d'), 1);
        due("7", x.type('7'), 2);
        due("the text", x.perform(), 1);
        due("the day", x.count(0), 7);

        document.says("`character`: any character");
        due("the least", x.type((char) 0), 3);
        due("the greatest", x.type((char) 65535), 4);
        due("the first one is a fault", x.perform(), -102);

        document.says("Returns the length of the text then; FULL if it has 60 characters.");
        for (int length = 5; length <= 60; length++) {
            due("the length", x.type(';'), length);
        }
        due("60 characters", x.type(';'), FULL);
        due("the length", x.count(14), 60);
    }

    private static void clearText(Document document) {
        document.says("`int clearText()`: Empties the text.");
        GlassRacks x = new GlassRacks();
        Due.typeAll(x, "d1;");
        x.clearText();
        due("empty", x.count(14), 0);
        due("its fault", x.perform(), -100);
        due("a new text", Due.performed(x, "d2"), 1);

        document.says("Returns the length that it had.");
        due("two", x.clearText(), 2);
        due("none", x.clearText(), 0);
    }

    private static void undo(Document document) {
        document.says("`int undo()`: Removes and restores the latest state of the history.");
        GlassRacks x = new GlassRacks();
        x.buy(0, 0, 9, 9);
        x.scrap(0);
        due("undone", x.undo(), 1);
        due("the sheet is back", x.at(0, 0), 0);
        due("no scrap", x.count(5), 0);
        due("removed", x.count(13), 1);

        document.says("Returns the number of states that are left; NONE if the history is empty.");
        due("none is left", x.undo(), 0);
        due("no sheet", x.count(12), 0);
        due("empty", x.undo(), NONE);
    }

    private static void keep(Document document) {
        document.says("`int keep()`: Takes a snapshot of the state, in place of the one that was.");
        GlassRacks x = new GlassRacks();
        x.keep();
        x.buy(0, 0, 9, 9);
        x.keep();
        x.scrap(0);
        due("restored", x.restore(), 0);
        due("the sheet of the latter one", x.at(0, 0), 0);

        document.says("Returns the day.");
        x.pass(42);
        due("the day", x.keep(), 42);
    }

    private static void restore(Document document) {
        document.says("`int restore()`: Restores the state of the snapshot, which stays.");
        GlassRacks x = new GlassRacks();
        x.pass(6);
        x.keep();
        for (int time = 0; time < 3; time++) {
            due("a sheet", x.buy(0, 0, 9, 9), 0);
            due("restored", x.restore(), 6);
            due("no sheet", x.at(0, 0), NONE);
        }
        thisIsAnAct(document, y -> y.restore());

        document.says("Returns the day then; NONE if there is no snapshot.");
        x.pass(3);
        due("the day then", x.restore(), 6);
        due("no snapshot", new GlassRacks().restore(), NONE);
    }

    private static void sheet(Document document) {
        document.says("`int sheet(int sheet, int what)`:");
        GlassRacks x = new GlassRacks();
        x.buy(0, 0, 9, 9);
        x.buy(2, 1, 70, 60);
        x.order(1, 20, 30, 0);
        x.cut(0, 1);
        x.buy(2, 2, 9, 8);
        document.says("`sheet`: the number of a sheet that is in a rack");
        due("one that was cut", x.sheet(1, 0), UNKNOWN);
        due("one that is not yet", x.sheet(5, 0), UNKNOWN);
        due("-1", x.sheet(-1, 0), UNKNOWN);

        document.says("`what`: 0 for its sort, 1 for its width, 2 for its height, 3 for its rack, 4 for how many sheets are before it, 5 "
            + "for the sheet of which it is a kept piece (NONE if it was bought)");
        int[][] told = {{0, 9, 9, 0, 0, NONE}, {}, {1, 49, 30, 2, 2, 1}, {1, 70, 29, 2, 1, 1}, {2, 9, 8, 2, 0, NONE}};
        for (int number = 0; number < told.length; number++) {
            for (int what = 0; what < told[number].length; what++) {
                due("sheet(" + number + ", " + what + ")", x.sheet(number, what), told[number][what]);
            }
        }

        document.says("Returns the number; UNKNOWN; BAD_VALUE.");
        due("no such question", x.sheet(0, 6), BAD_VALUE);
        due("no such question", x.sheet(0, -1), BAD_VALUE);
        due("no such question of no sheet", x.sheet(1, 6), UNKNOWN);
    }

    private static void at(Document document) {
        document.says("`int at(int rack, int place)`:");
        GlassRacks x = Scenes.rackOf(3);
        document.says("`rack`: 0 to 3");
        due("rack -1", x.at(-1, 0), UNKNOWN);
        due("rack 4", x.at(4, 0), UNKNOWN);
        due("rack 3", x.at(3, 0), NONE);
        document.says("`place`: a place in it, 0 for the front one");
        for (int place = 0; place < 3; place++) {
            due("place " + place, x.at(0, place), 2 - place);
        }

        document.says("Returns the number of the sheet; UNKNOWN; BAD_VALUE if place is negative; NONE if there are not so many.");
        due("negative", x.at(0, -1), BAD_VALUE);
        due("negative, no such rack", x.at(4, -1), UNKNOWN);
        due("not so many", x.at(0, 3), NONE);
        due("not nearly so many", x.at(0, Integer.MAX_VALUE), NONE);
    }

    private static void ordered(Document document) {
        document.says("`int ordered(int order, int what)`:");
        GlassRacks x = new GlassRacks();
        x.buy(0, 0, 9, 9);
        x.buy(0, 1, 30, 20);
        x.order(1, 20, 30, 2);
        x.order(0, 9, 8, 8);
        x.order(2, 7, 6, 0);
        x.cancel(2);
        x.order(2, 5, 4, 2);
        x.pass(3);
        x.cut(0, 1);
        document.says("`order`: an order");
        due("order -1", x.ordered(-1, 0), UNKNOWN);
        due("order 4", x.ordered(4, 0), UNKNOWN);

        document.says("`what`: 0 for its sort, 1 for its width, 2 for its height, 3 for its day, 4 for 0 if it is open, 1 if it is cut, 2 "
            + "if it is cancelled; 5 for the sheet from which it was cut (NONE if it is not cut), 6 for the day on which it was cut (NONE "
            + "likewise), 7 for whether it is late (1, otherwise 0)");
        int[][] told = {{1, 20, 30, 2, 1, 1, 3, 1}, {0, 9, 8, 8, 0, NONE, NONE, 0}, {2, 7, 6, 0, 2, NONE, NONE, 0},
            {2, 5, 4, 2, 0, NONE, NONE, 1}};
        for (int number = 0; number < told.length; number++) {
            for (int what = 0; what < told[number].length; what++) {
                due("ordered(" + number + ", " + what + ")", x.ordered(number, what), told[number][what]);
            }
        }

        document.says("Returns the number; UNKNOWN; BAD_VALUE.");
        due("no such question", x.ordered(0, 8), BAD_VALUE);
        due("no such question", x.ordered(0, -1), BAD_VALUE);
        due("no such question of no order", x.ordered(4, 8), UNKNOWN);
    }

    private static void would(Document document) {
        document.says("`int would(int order, int sheet, int what)`: Tells what a cut would make, if nothing broke and there was room.");
        GlassRacks x = new GlassRacks();
        for (int number = 0; number < 8; number++) {
            x.buy(0, 0, 60, 50);
        }
        x.order(0, 40, 55, 0);
        x.set(3, 1);
        int[] told = {1, 4 * 40, 60 * 9, 0, 160 + 540, 3000 - 2200 - 700, 8};
        for (int what = 0; what < 7; what++) {
            due("would(0, 0, " + what + ")", x.would(0, 0, what), told[what]);
        }
        x.order(0, 20, 30, 0);
        due("both pieces would be kept, as if there was room", x.would(1, 0, 3), 39 * 30 + 60 * 19);
        due("nothing is cut", x.count(4) + x.count(8), 0);

        document.says("`order`: an order");
        due("order -1", x.would(-1, 0, 0), UNKNOWN);
        due("order 2", x.would(2, 0, 0), UNKNOWN);
        document.says("`sheet`: a sheet that is in a rack");
        due("sheet -1", x.would(0, -1, 0), UNKNOWN);
        due("sheet 8", x.would(0, 8, 0), UNKNOWN);

        document.says("`what`: 0 for how the pane lies (0 upright, 1 turned), 1 for the area of the piece beside, 2 for that of the piece "
            + "above (0 if it is none), 3 for the area that would be kept, 4 for the area that would be scrap, 5 for the area that would "
            + "be lost by cuts, 6 for how many sheets would be lifted");
        x = Scenes.oneCut(60, 50, 50, 50);
        int[] beside = {0, 9 * 50, 0, 0, 450, 50, 1};
        for (int what = 0; what < 7; what++) {
            due("would(0, 0, " + what + ")", x.would(0, 0, what), beside[what]);
        }
        x.set(2, 1);
        x.order(0, 60, 39, 0);
        int[] above = {0, 0, 60 * 10, 600, 0, 60, 1};
        for (int what = 0; what < 7; what++) {
            due("would(1, 0, " + what + ")", x.would(1, 0, what), above[what]);
        }

        document.says("Returns the number; UNKNOWN (order or sheet); BAD_VALUE; NONE if the order (open or not) cannot be cut from it.");
        x.order(0, 61, 1, 0);
        due("it cannot be cut", x.would(2, 0, 0), NONE);
        x.cancel(2);
        due("nor if it is cancelled", x.would(2, 0, 0), NONE);
        x.cancel(0);
        due("a cancelled one could be cut", x.would(0, 0, 5), 50);
        due("no such question", x.would(2, 0, 7), BAD_VALUE);
        due("no such question", x.would(2, 0, -1), BAD_VALUE);
        due("no such question of no order", x.would(3, 0, 7), UNKNOWN);
        due("no such question of no sheet", x.would(0, 1, 7), UNKNOWN);
    }

    private static void choice(Document document) {
        document.says("`int choice(int order, int choice)`:");
        GlassRacks x = new GlassRacks();
        x.buy(0, 0, 30, 30);
        x.buy(1, 0, 52, 31);
        x.buy(2, 0, 20, 21);
        x.buy(0, 0, 9, 9);
        x.buy(2, 0, 9, 9);
        x.order(0, 20, 20, 5);
        x.order(0, 21, 9, 0);
        x.order(1, 9, 9, 0);
        document.says("`order`: an order");
        due("order -1", x.choice(-1, 0), UNKNOWN);
        due("order 3", x.choice(3, 0), UNKNOWN);
        document.says("`choice`: 0 to 2");
        due("choice -1", x.choice(0, -1), BAD_VALUE);
        due("choice 3", x.choice(0, 3), BAD_VALUE);
        due("the least area", x.choice(0, 0), 2);
        due("the fewest before it", x.choice(0, 1), 1);
        due("the least scrap", x.choice(0, 2), 1);

        document.says("Returns the sheet that a plan would choose for it now, were it the first; UNKNOWN; BAD_VALUE; NOT_POSSIBLE if it is "
            + "not open; NONE if there is none.");
        due("were it the first", x.next(0), 1);
        due("the other one would take the same sheet", x.choice(1, 0), 2);
        due("none", x.choice(2, 0), NONE);
        x.cancel(2);
        due("not open", x.choice(2, 0), NOT_POSSIBLE);
        due("no such choice", x.choice(2, 3), BAD_VALUE);
        due("no such choice of no order", x.choice(3, 3), UNKNOWN);
    }

    private static void next(Document document) {
        document.says("`int next(int rank)`: Tells the open orders as a plan goes through them.");
        GlassRacks x = new GlassRacks();
        int[] days = {5, 3, 5, 3, 1};
        for (int number = 0; number < days.length; number++) {
            x.order(0, 10 + number, 9, days[number]);
        }
        document.says("`rank`: a rank, from 0");
        int[] ranked = {4, 3, 1, 2, 0, NONE};
        for (int rank = 0; rank < ranked.length; rank++) {
            due("next(" + rank + ")", x.next(rank), ranked[rank]);
        }

        document.says("Returns the order; BAD_VALUE if rank is negative; NONE if there are not so many.");
        x.cancel(3);
        due("the next one", x.next(1), 1);
        due("negative", x.next(-1), BAD_VALUE);
        due("not so many", x.next(4), NONE);
        due("not nearly so many", x.next(Integer.MAX_VALUE), NONE);
    }

    private static void wouldPlan(Document document) {
        document.says("`int wouldPlan(int choice, int what)`: Tells what a plan would do.");
        GlassRacks x = new GlassRacks();
        x.buy(0, 0, 50, 30);
        x.buy(0, 1, 9, 9);
        x.buy(1, 0, 99, 99);
        x.order(0, 40, 30, 0);
        x.order(0, 90, 95, 1);
        document.says("`choice`: 0 to 2");
        due("choice -1", x.wouldPlan(-1, 0), BAD_VALUE);
        due("choice 3", x.wouldPlan(3, 0), BAD_VALUE);
        due("choice 0: both", x.wouldPlan(0, 0), 2);
        due("choice 1: the one of day 0 takes the great sheet", x.wouldPlan(1, 0), 1);
        due("choice 2: so it does, since both its pieces are kept", x.wouldPlan(2, 0), 1);

        document.says("`what`: 0 for how many orders it would cut, 1 for the area that becomes scrap by it, 2 for how many sheets it would "
            + "lift, 3 for the area that would break");
        int[] whole = {2, 9 * 30 + 8 * 95 + 99 * 3, 3, 0};
        for (int what = 0; what < 4; what++) {
            due("wouldPlan(0, " + what + ")", x.wouldPlan(0, what), whole[what]);
        }
        x.set(3, 2);
        int[] broken = {1, 8 * 95 + 99 * 3, 3, 1500};
        for (int what = 0; what < 4; what++) {
            due("wouldPlan(0, " + what + "), fragile", x.wouldPlan(0, what), broken[what]);
        }
        due("nothing is cut or lifted", x.count(4) + x.count(8), 0);
        x.buy(3, 2, 9, 9);
        x.buy(3, 2, 7, 7);
        due("scrapped before", x.scrap(4), 49);
        due("broken before", x.scrap(3), 81);
        due("scrap", x.count(5), 49);
        due("broken", x.count(6), 81);
        due("liftings", x.count(8), 2);
        for (int what = 0; what < 4; what++) {
            due("wouldPlan(0, " + what + ") is told without them", x.wouldPlan(0, what), broken[what]);
        }

        document.says("Returns the number; BAD_VALUE.");
        due("no such question", x.wouldPlan(0, 4), BAD_VALUE);
        due("no such question", x.wouldPlan(0, -1), BAD_VALUE);
        for (int what = 0; what < 4; what++) {
            due("of no order", new GlassRacks().wouldPlan(2, what), 0);
        }
    }

    private static void count(Document document) {
        document.says("`int count(int what)`:");
        GlassRacks x = new GlassRacks();
        x.buy(0, 0, 60, 40);
        x.buy(0, 1, 7, 7);
        x.buy(1, 0, 11, 11);
        x.order(0, 25, 20, 0);
        x.order(0, 9, 9, 0);
        x.order(0, 9, 9, 9);
        x.pass(2);
        x.cut(0, 0);
        x.scrap(1);
        x.set(3, 2);
        x.move(2, 2);
        Due.typeAll(x, "hello");
        document.says("`what`: 0 for the day, 1 for sheets in racks, 2 for their area, 3 for the area bought so far, 4 for that of panes cut "
            + "so far, 5 for scrap so far, 6 for what is broken so far, 7 for what is lost by cuts so far, 8 for liftings so far, 9 for "
            + "orders so far, 10 for open ones, 11 for late ones, 12 for sheets so far, 13 for the states in the history, 14 for the length "
            + "of the text; 20 to 24 for the settings 0 to 4");
        int[] told = {2, 2, 34 * 20 + 60 * 19, 2400 + 49 + 121, 500, 49, 121, 2400 - 500 - 680 - 1140, 6, 3, 2, 2, 5, 4, 5};
        for (int what = 0; what < told.length; what++) {
            due("count(" + what + ")", x.count(what), told[what]);
        }
        int[] settings = {1, 10, 0, 2, 1};
        for (int what = 0; what < settings.length; what++) {
            due("count(" + (20 + what) + ")", x.count(20 + what), settings[what]);
        }

        document.says("Returns the number; BAD_VALUE.");
        for (int what : new int[] {-1, 15, 19, 25, Integer.MIN_VALUE, Integer.MAX_VALUE}) {
            due("count(" + what + ")", x.count(what), BAD_VALUE);
        }
    }
}
