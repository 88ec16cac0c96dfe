/** The document from its first line to the end of its "Terms": each sentence in its turn, with answers counted by hand. */
public final class DocumentTermsTest {
    private static final int UNKNOWN = GlassRacks.UNKNOWN;
    private static final int BAD_VALUE = GlassRacks.BAD_VALUE;
    private static final int FULL = GlassRacks.FULL;
    private static final int NOT_POSSIBLE = GlassRacks.NOT_POSSIBLE;
    private static final int NONE = GlassRacks.NONE;

    private DocumentTermsTest() {
    }

    public static void main(String[] args) {
        Document document = new Document("## What it is", "## Promise 1");
        whatItIs(document);
        callsOfAnObject(document);
        sheetsAndRacks(document);
        orders(document);
        panesThatFit(document);
        lifting(document);
        breaking(document);
        takingOutToCut(document);
        piecesOfACut(document);
        keptPieces(document);
        areasOfACut(document);
        theOrderOfAPlan(document);
        theSheetsOfAPlan(document);
        texts(document);
        numbersInTexts(document);
        faultsOfTexts(document);
        history(document);
        snapshot(document);
        errors(document);
        constants(document);
        document.isReadToItsEnd();
        Due.finish();
    }

    private static void due(String call, long got, long want) {
        Due.due(call, got, want);
    }

    private static void whatItIs(Document document) {
        document.says("A warehouse of replacement glass: racks in which sheets lean one before the other, sorts of glass, orders of "
            + "panes by days, cuts straight through a sheet in two manners, pieces that are kept and pieces that are scrap, the "
            + "width of a cut, sheets that are lifted to get at others, glass that breaks at each so many liftings, what is bought, "
            + "cut, kept, broken, scrapped, plans of a day by an order of orders and a choice of sheets, what they would waste, late "
            + "orders, commands that are read from a text with the places of faults, undo and a snapshot.");
        GlassRacks x = new GlassRacks();
        due("a sheet", x.buy(0, 0, 60, 40), 0);
        due("a sheet before it", x.buy(0, 0, 50, 50), 1);
        due("an order", x.order(0, 20, 30, 0), 0);
        due("an order of later", x.order(0, 45, 20, 5), 1);
        due("scrap of a cut in the one manner", x.would(0, 0, 4), 60 * 9);
        due("lost by it", x.would(0, 0, 5), 2400 - 600 - 39 * 30 - 60 * 9);
        due("the other manner", x.set(2, 1), 0);
        due("scrap of a cut in the other manner", x.would(0, 0, 4), 20 * 9);
        due("lifted for it", x.would(0, 0, 6), 2);
        due("the least sheet", x.choice(0, 0), 0);
        due("the sheet at the front", x.choice(0, 1), 1);
        due("the sheet of the least scrap", x.choice(0, 2), 1);
        due("what a plan would waste", x.wouldPlan(0, 1), 20 * 9 + 4 * 50);
        due("glass that breaks at each third lifting", x.set(3, 3), 0);
        due("what a plan would break", x.wouldPlan(0, 3), 39 * 40);
        due("a day passes, an order is late", x.pass(1), 1);
        due("a snapshot", x.keep(), 1);
        due("a fault", Due.performed(x, "p0;d0"), -104);
        due("a plan by a text", Due.performed(x, "p0"), 1);
        due("bought", x.count(3), 2400 + 2500);
        due("cut", x.count(4), 600 + 900);
        due("scrap", x.count(5), 20 * 9 + 4 * 50);
        due("broken", x.count(6), 39 * 40);
        due("there", x.count(2), 45 * 29);
        due("lost", x.count(7), 4900 - 1500 - 380 - 1560 - 1305);
        due("undone", x.undo(), 3);
        due("nothing cut", x.count(4), 0);
        due("back to the snapshot", x.restore(), 1);
        due("late", x.count(11), 1);
    }

    private static void callsOfAnObject(Document document) {
        document.says("An object is used for at most 512 calls after it has been made; what later calls answer is free.");
        GlassRacks x = new GlassRacks();
        due("call 1", x.buy(0, 0, 9, 9), 0);
        for (int call = 2; call <= 511; call++) {
            due("call " + call, x.move(0, call % 4), 1);
        }
        due("call 512", x.count(8), 510);
    }

    private static void sheetsAndRacks(Document document) {
        document.says("All numbers are whole. Days are numbered from 0; sizes are in units, areas in square units.");
        GlassRacks x = new GlassRacks();
        due("the first day", x.count(0), 0);
        due("a sheet", x.buy(0, 0, 3, 7), 0);
        due("its area", x.count(2), 21);

        document.says("There are 4 racks, numbered from 0;");
        for (int rack = -1; rack <= 4; rack++) {
            due("the front of rack " + rack, new GlassRacks().at(rack, 0), rack >= 0 && rack < 4 ? NONE : UNKNOWN);
        }

        document.says("each has room for 8 sheets, which lean one before the other: the sheet that came last is at the front.");
        x = new GlassRacks();
        for (int number = 0; number < 32; number++) {
            due("sheet " + number, x.buy(number / 8, 0, 9, 9), number);
            due("at the front of its rack", x.at(number / 8, 0), number);
            due("the first one of the rack is behind all", x.at(number / 8, number % 8), number - number % 8);
        }
        for (int rack = 0; rack < 4; rack++) {
            due("a ninth sheet in rack " + rack, x.buy(rack, 0, 9, 9), FULL);
        }

        document.says("A sheet has a number (from 0, in the order in which sheets came to be, kept pieces too;");
        x = Scenes.oneCut(40, 40, 10, 10);
        due("the next sheet", x.buy(1, 0, 9, 9), 1);
        due("two pieces kept", x.cut(0, 0), 2);
        due("the one piece", x.sheet(2, 5), 0);
        due("the other piece", x.sheet(3, 5), 0);
        due("a sheet behind them", x.buy(1, 0, 9, 9), 4);

        document.says("at most 200 ever),");
        x = Scenes.sheetsEver(199);
        due("the last sheet", x.buy(0, 0, 9, 9), 199);
        due("one too many", x.buy(1, 0, 9, 9), FULL);

        document.says("a sort (0 to 2), a width and a height (1 to 99 each).");
        x = new GlassRacks();
        due("the least", x.buy(0, 0, 1, 1), 0);
        due("the greatest", x.buy(0, 2, 99, 98), 1);
        due("the sort", x.sheet(1, 0), 2);
        due("the width", x.sheet(1, 1), 99);
        due("the height", x.sheet(1, 2), 98);
        due("a sort of 3", x.buy(0, 3, 1, 1), UNKNOWN);
        due("a width of 0", x.buy(0, 0, 0, 1), BAD_VALUE);
        due("a height of 100", x.buy(0, 0, 1, 100), BAD_VALUE);
    }

    private static void orders(Document document) {
        document.says("There are at most 12 orders ever, numbered from 0.");
        GlassRacks x = new GlassRacks();
        for (int number = 0; number < 12; number++) {
            due("an order", x.order(0, 9, 9, 0), number);
        }
        due("one order is gone", x.cancel(0), 11);
        due("a thirteenth order ever", x.order(0, 9, 9, 0), FULL);

        document.says("An order asks for one pane of a sort, with a width and a height (1 to 99 each), by a day.");
        x = new GlassRacks();
        due("an order", x.order(2, 99, 1, 7), 0);
        due("the sort", x.ordered(0, 0), 2);
        due("the width", x.ordered(0, 1), 99);
        due("the height", x.ordered(0, 2), 1);
        due("the day", x.ordered(0, 3), 7);
        due("a width of 100", x.order(2, 100, 1, 7), BAD_VALUE);
        due("a height of 0", x.order(2, 99, 0, 7), BAD_VALUE);

        document.says("It is open, cut, or cancelled.");
        x = new GlassRacks();
        for (int number = 0; number < 3; number++) {
            x.order(0, 9, 9, 1);
            x.buy(number, 0, 9, 9);
        }
        x.cut(1, 1);
        x.cancel(2);
        for (int number = 0; number < 3; number++) {
            due("order " + number, x.ordered(number, 4), number);
        }

        document.says("It is late if it is cut on a later day, or is open behind its day.");
        due("none is late on its day", x.pass(1), 0);
        due("the open one is late behind its day", x.pass(1), 1);
        for (int number = 0; number < 3; number++) {
            due("order " + number + " is late", x.ordered(number, 7), number == 0 ? 1 : 0);
        }
        x.order(0, 9, 9, 2);
        due("it is cut on its day", x.cut(3, 2), 0);
        due("and is not late", x.ordered(3, 7), 0);
        due("it is cut on a later day", x.cut(0, 0), 0);
        due("and is late", x.ordered(0, 7), 1);
    }

    private static void panesThatFit(Document document) {
        document.says("A pane can be cut from a sheet of its sort if it fits: upright, if its width is at most that of the sheet and its "
            + "height at most that of the sheet;");
        GlassRacks x = new GlassRacks();
        x.buy(0, 1, 30, 20);
        x.order(1, 30, 20, 0);
        x.order(0, 30, 20, 0);
        x.order(1, 31, 20, 0);
        x.order(1, 30, 21, 0);
        due("as large as the sheet, upright", x.would(0, 0, 0), 0);
        due("of another sort", x.would(1, 0, 0), NONE);
        due("too wide", x.would(2, 0, 0), NONE);
        due("too high", x.would(3, 0, 0), NONE);

        document.says("otherwise turned (width and height exchanged), if turning is allowed (at first it is) and it fits then.");
        x.order(1, 20, 30, 0);
        x.order(1, 21, 30, 0);
        x.order(1, 20, 31, 0);
        due("turning is allowed", x.count(24), 1);
        due("turned", x.would(4, 0, 0), 1);
        due("too high, turned", x.would(5, 0, 0), NONE);
        due("too wide, turned", x.would(6, 0, 0), NONE);
        due("no turning", x.set(4, 0), 1);
        due("not turned", x.would(4, 0, 0), NONE);
        due("upright still", x.would(0, 0, 0), 0);

        document.says("(Upright comes first.)");
        x = Scenes.oneCut(50, 40, 30, 10);
        due("either way would do", x.would(0, 0, 0), 0);
        due("the piece beside", x.would(0, 0, 1), 19 * 10);
        due("the piece above", x.would(0, 0, 2), 50 * 29);
    }

    private static void lifting(Document document) {
        document.says("To take a sheet out of its rack, each sheet before it is lifted, the front one first, and then the sheet itself;");
        GlassRacks x = Scenes.rackOf(4);
        due("the second one is moved", x.move(1, 2), 3);
        due("it is there", x.at(2, 0), 1);
        x = Scenes.rackOf(4);
        x.set(3, 2);
        due("the first one is moved", x.move(0, 2), 4);
        due("the front one was lifted first", x.sheet(3, 3), 0);
        due("the next one second", x.sheet(2, 3), UNKNOWN);
        due("the next one third", x.sheet(1, 3), 0);
        due("the sheet itself last", x.sheet(0, 3), UNKNOWN);

        document.says("those before it are put back in their order.");
        x = Scenes.rackOf(4);
        x.buy(1, 0, 9, 9);
        x.buy(1, 0, 9, 9);
        x.scrap(1);
        int[] left = {3, 2, 0, NONE};
        for (int place = 0; place < 4; place++) {
            due("at place " + place, x.at(0, place), left[place]);
        }
        due("the other rack is as it was", x.at(1, 1), 4);
        for (int rack = 0; rack < 4; rack++) {
            x = new GlassRacks();
            for (int number = 0; number < 8; number++) {
                x.buy(rack, 0, 9, 9);
            }
            due("the rearmost one of a full rack", x.scrap(0), 81);
            due("the front one is back", x.at(rack, 0), 7);
            due("all seven are", x.count(1), 7);
        }

        document.says("The liftings so far are counted (0 at first);");
        x = Scenes.rackOf(4);
        due("at first", x.count(8), 0);
        x.move(1, 2);
        due("after a move", x.count(8), 3);
        x.scrap(0);
        due("after scrapping", x.count(8), 6);
        x.order(0, 50, 50, 0);
        x.cut(0, 3);
        due("after a cut", x.count(8), 7);
    }

    private static void breaking(Document document) {
        document.says("if the fragility is above 0 (0 to 50; 0 at first), a sheet breaks at a lifting by which their number becomes "
            + "divisible by it: it is gone, and its area is broken.");
        GlassRacks x = Scenes.rackOf(1);
        due("at first", x.count(23), 0);
        due("too fragile", x.set(3, 51), BAD_VALUE);
        due("the greatest", x.set(3, 50), 0);
        for (int lifting = 1; lifting < 50; lifting++) {
            due("lifting " + lifting, x.move(0, 0), 1);
            due("it is whole", x.at(0, 0), 0);
        }
        due("lifting 50", x.move(0, 0), 1);
        due("it is gone", x.sheet(0, 0), UNKNOWN);
        due("its area", x.count(6), 2500);

        document.says("(If the sheet that was to be taken out breaks, it is not taken out.");
        x = Scenes.rackOf(2);
        x.set(3, 2);
        due("it is lifted second", x.move(0, 1), 2);
        due("it is not put where it should be", x.at(1, 0), NONE);
        due("nor is it back", x.at(0, 1), NONE);
        due("the other one is", x.at(0, 0), 1);

        document.says("Others that break are not put back.)");
        x = Scenes.rackOf(3);
        x.set(3, 2);
        due("the second one breaks", x.move(0, 1), 3);
        due("the sheet is taken out", x.at(1, 0), 0);
        due("the front one is put back", x.at(0, 0), 2);
        due("the second one is not", x.at(0, 1), NONE);
    }

    private static void takingOutToCut(Document document) {
        document.says("To cut an order from a sheet: the sheet is taken out.");
        GlassRacks x = Scenes.oneCut(9, 9, 9, 9);
        x.buy(0, 1, 9, 9);
        due("a cut without pieces", x.cut(0, 0), 0);
        due("lifted", x.count(8), 2);
        due("taken out", x.sheet(0, 3), UNKNOWN);

        document.says("If it breaks, nothing is cut (the order stays open).");
        x = Scenes.oneCut(40, 40, 9, 9);
        x.set(3, 1);
        due("it breaks", x.cut(0, 0), 10);
        due("open", x.ordered(0, 4), 0);
        due("no pane", x.count(4), 0);
        due("no scrap", x.count(5), 0);
        due("all broken", x.count(6), 1600);
        due("no sheets", x.count(1), 0);
    }

    private static void piecesOfACut(Document document) {
        document.says("Otherwise the pane is cut from its corner: with W and H of the sheet, w and h of the pane (as it lies), and the "
            + "width of a cut c (0 to 5; 1 at first), there are a piece beside the pane and a piece above it.");
        GlassRacks x = Scenes.oneCut(60, 50, 20, 55);
        due("c at first", x.count(20), 1);
        due("c is 6", x.set(0, 6), BAD_VALUE);
        due("c is 5", x.set(0, 5), 1);
        due("it lies turned", x.would(0, 0, 0), 1);

        document.says("By the manner 0 (at first) the piece beside is W - w - c wide and h high, the piece above W wide and H - h - c "
            + "high;");
        due("the manner at first", x.count(22), 0);
        x = Scenes.oneCut(90, 80, 50, 30);
        x.set(0, 3);
        due("two pieces", x.cut(0, 0), 2);
        due("beside, wide", x.sheet(1, 1), 37);
        due("beside, high", x.sheet(1, 2), 30);
        due("above, wide", x.sheet(2, 1), 90);
        due("above, high", x.sheet(2, 2), 47);

        document.says("by the manner 1 the piece beside is W - w - c wide and H high, the piece above w wide and H - h - c high.");
        x = Scenes.oneCut(90, 80, 50, 30);
        x.set(0, 3);
        x.set(2, 1);
        due("two pieces", x.cut(0, 0), 2);
        due("beside, wide", x.sheet(1, 1), 37);
        due("beside, high", x.sheet(1, 2), 80);
        due("above, wide", x.sheet(2, 1), 50);
        due("above, high", x.sheet(2, 2), 47);

        document.says("A piece with a side of 0 or less is none.");
        x = Scenes.oneCut(31, 30, 30, 30);
        x.set(1, 1);
        due("0 wide", x.would(0, 0, 1), 0);
        due("-1 high", x.would(0, 0, 2), 0);
        due("all besides the pane is lost", x.would(0, 0, 5), 30);
        due("nothing is kept", x.cut(0, 0), 0);
        due("nothing is scrap", x.count(5), 0);
        x = Scenes.oneCut(32, 32, 30, 30);
        due("1 wide", x.would(0, 0, 1), 30);
        due("1 high", x.would(0, 0, 2), 32);
        due("nothing is kept", x.cut(0, 0), 0);
        due("both pieces are scrap", x.count(5), 62);
        x = Scenes.oneCut(32, 32, 30, 30);
        x.set(1, 1);
        due("both pieces are kept", x.cut(0, 0), 2);
    }

    private static void keptPieces(Document document) {
        document.says("A piece both of whose sides are at least the least side (1 to 99; 10 at first) is kept:");
        GlassRacks x = new GlassRacks();
        due("at first", x.count(21), 10);
        due("a least side of 0", x.set(1, 0), BAD_VALUE);
        due("a least side of 99", x.set(1, 99), 10);
        x = Scenes.oneCut(60, 60, 49, 10);
        due("a piece beside, 10 wide and high, and a piece above, 60 and 49", x.would(0, 0, 3), 100 + 60 * 49);
        x.order(0, 10, 49, 0);
        due("a piece above, 60 wide and 10 high, and a piece beside, 49 and 49", x.would(1, 0, 3), 600 + 49 * 49);
        x.set(2, 1);
        due("by the other manner, 10 wide and high, and 49 and 60", x.would(1, 0, 3), 100 + 49 * 60);
        x = Scenes.oneCut(41, 40, 30, 30);
        due("pieces 10 wide and 9 high", x.cut(0, 0), 1);
        due("the one kept is 10 wide", x.sheet(1, 1), 10);
        due("the other one is scrap", x.count(5), 41 * 9);

        document.says("it becomes a sheet of the same sort, at the front of the rack of the sheet that was cut, the piece beside first,");
        x = new GlassRacks();
        x.buy(2, 1, 80, 80);
        x.buy(2, 0, 9, 9);
        x.order(1, 20, 30, 0);
        due("two pieces", x.cut(0, 0), 2);
        due("the piece beside", x.sheet(2, 2), 30);
        due("the piece above", x.sheet(3, 2), 49);
        int[] there = {3, 2, 1, NONE};
        for (int place = 0; place < 4; place++) {
            due("at place " + place, x.at(2, place), there[place]);
        }
        due("the sort of the piece beside", x.sheet(2, 0), 1);
        due("the sort of the piece above", x.sheet(3, 0), 1);

        document.says("if there is room (and have not been 200 sheets); all others are scrap.");
        x = Scenes.rackOf(8);
        x.order(0, 20, 20, 0);
        due("room for one piece", x.cut(0, 3), 1);
        due("it is the piece beside", x.sheet(8, 1), 29);
        due("the piece above is scrap", x.count(5), 50 * 29);
        x = Scenes.sheetsEver(198);
        x.buy(0, 0, 50, 50);
        x.order(0, 20, 20, 0);
        due("one more sheet can be", x.cut(0, 198), 1);
        due("it is the last one", x.sheet(199, 1), 29);
        due("the piece above is scrap now", x.count(5), 50 * 29);
    }

    private static void areasOfACut(Document document) {
        document.says("The area of the sheet is that of the pane, of kept pieces, of scrap pieces, and what is left of it, which is lost "
            + "by cuts.");
        for (int manner = 0; manner <= 1; manner++) {
            GlassRacks x = Scenes.oneCut(60, 35, 40, 25);
            x.set(2, manner);
            due("to be lost", x.would(0, 0, 5), manner == 0 ? 60 + 25 : 35 + 40);
            due("one piece", x.cut(0, 0), 1);
            due("the pane", x.count(4), 1000);
            due("kept", x.count(2), manner == 0 ? 19 * 25 : 19 * 35);
            due("scrap", x.count(5), manner == 0 ? 60 * 9 : 40 * 9);
            due("lost", x.count(7), manner == 0 ? 60 + 25 : 35 + 40);
        }
    }

    private static void theOrderOfAPlan(Document document) {
        document.says("A plan goes through the open orders, one after the other: by their days, the earliest first, of several by the "
            + "areas of the panes, the greatest first, then by their numbers.");
        GlassRacks x = new GlassRacks();
        x.order(0, 4, 5, 7);
        x.order(0, 6, 6, 7);
        x.order(0, 1, 1, 2);
        x.order(0, 12, 3, 7);
        x.order(0, 99, 99, 8);
        x.order(0, 99, 99, 0);
        x.cancel(5);
        int[] ranked = {2, 1, 3, 0, 4, NONE};
        for (int rank = 0; rank < ranked.length; rank++) {
            due("rank " + rank, x.next(rank), ranked[rank]);
        }
        x = new GlassRacks();
        for (int number = 0; number < 12; number++) {
            x.buy(number / 8, 0, 20 + number, 9);
            x.order(0, 20 + number, 9, 0);
        }
        due("twelve orders", x.plan(0), 12);
        for (int number = 0; number < 12; number++) {
            due("order " + number + " got the sheet that is as great", x.ordered(number, 5), number);
        }
    }

    private static void theSheetsOfAPlan(Document document) {
        document.says("For each it chooses a sheet from which its pane can be cut, as things are then:");
        GlassRacks x = new GlassRacks();
        x.buy(0, 0, 50, 30);
        x.order(0, 20, 30, 0);
        x.order(0, 29, 30, 0);
        due("both are cut", x.plan(0), 2);
        due("the greater one from the sheet", x.ordered(1, 5), 0);
        due("the other one from the piece", x.ordered(0, 5), 1);

        document.says("by the choice 0 the one with the least area, by the choice 1 the one for which the fewest sheets are before it, by "
            + "the choice 2 the one of which the least area would be scrap (by a cut of now, if nothing broke and there was room);");
        x = new GlassRacks();
        x.buy(0, 0, 22, 22);
        x.buy(0, 1, 9, 9);
        x.buy(1, 0, 41, 41);
        for (int before = 0; before < 7; before++) {
            x.buy(1, 1, 9, 9);
        }
        x.buy(2, 0, 30, 30);
        x.order(0, 20, 20, 0);
        for (int fragility = 0; fragility <= 1; fragility++) {
            x.set(3, fragility);
            due("an area of 484", x.choice(0, 0), 0);
            due("none before it", x.choice(0, 1), 10);
            due("no scrap", x.choice(0, 2), 2);
        }

        document.says("of several always that with the lowest number.");
        x = new GlassRacks();
        x.buy(3, 0, 40, 40);
        x.buy(0, 0, 40, 40);
        x.order(0, 40, 40, 0);
        for (int choice = 0; choice < 3; choice++) {
            due("choice " + choice, x.choice(0, choice), 0);
        }

        document.says("If there is none, the order is passed over; otherwise it is cut from that sheet (which may break; then the order "
            + "stays open, and the next one follows).");
        x = new GlassRacks();
        x.buy(0, 0, 30, 30);
        x.buy(1, 0, 30, 30);
        x.order(0, 99, 99, 0);
        x.order(0, 30, 30, 1);
        x.order(0, 30, 30, 2);
        x.set(3, 2);
        x.move(1, 1);
        due("one is cut", x.plan(0), 1);
        due("passed over", x.ordered(0, 4), 0);
        due("sheet 0 broke", x.count(6), 900);
        due("the order stays open", x.ordered(1, 4), 0);
        due("the next one is cut", x.ordered(2, 5), 1);
    }

    private static void texts(Document document) {
        document.says("There is a text of at most 60 characters, empty at first.");
        GlassRacks x = new GlassRacks();
        due("empty at first", x.count(14), 0);
        for (int length = 1; length <= 60; length++) {
            due("a character", x.type('d'), length);
        }
        due("one too many", x.type('d'), FULL);

        document.says("A text of commands is one or more commands with \";\" between two:");
        due("one", Due.performed(x, "d1"), 1);
        due("three", Due.performed(x, "d1;d2;d3"), 3);
        due("nothing between", Due.performed(x, "d1d1"), -102);
        due("a sign ahead", Due.performed(x, ";d1"), -100);
        due("a sign behind", Due.performed(x, "d1;"), -103);
        due("two between", Due.performed(x, "d1;;d1"), -103);
        due("a blank", Due.performed(x, "d1; d1"), -103);

        document.says("\"s\", a rack, \":\", a sort, \",\", a width, \"x\", and a height (a sheet is bought);");
        due("performed", Due.performed(x, "s3:2,45x6"), 1);
        due("its rack", x.at(3, 0), 0);
        due("its sort", x.sheet(0, 0), 2);
        due("its width", x.sheet(0, 1), 45);
        due("its height", x.sheet(0, 2), 6);

        document.says("\"o\", a sort, \",\", a width, \"x\", a height, \"@\", and a day (an order);");
        due("performed", Due.performed(x, "o2,7x43@120"), 1);
        due("its sort", x.ordered(0, 0), 2);
        due("its width", x.ordered(0, 1), 7);
        due("its height", x.ordered(0, 2), 43);
        due("its day", x.ordered(0, 3), 120);

        document.says("\"p\" and a choice (a plan);");
        due("two sheets", Due.performed(x, "s0:2,8x43;s1:2,7x45"), 2);
        due("performed", Due.performed(x, "p0"), 1);
        due("by the choice 0", x.ordered(0, 5), 2);

        document.says("\"d\" and days that pass.");
        int day = x.count(0);
        due("performed", Due.performed(x, "d31"), 1);
        due("the day", x.count(0), day + 31);
    }

    private static void numbersInTexts(Document document) {
        document.says("Racks are 0 to 3, sorts and choices 0 to 2, widths, heights and passing days 1 to 99, days 0 to 999;");
        String[] good = {"s0:0,1x1", "s3:2,99x99", "o0,1x1@0", "o2,99x99@999", "p0", "p2", "d1", "d99"};
        String[] bad = {"s4", "s0:3", "s0:0,0", "s0:0,1x0", "o3", "o0,0", "o0,1x0", "p3", "d0"};
        for (String text : good) {
            due(text, Due.performed(new GlassRacks(), text), 1);
        }
        for (String text : bad) {
            due(text, Due.performed(new GlassRacks(), text), -100 - (text.length() - 1));
        }

        document.says("numbers have no zero in front, unless it is the single digit 0;");
        String[] zeros = {"s00", "s0:00", "s0:0,0", "s0:0,1x0", "o00", "o0,1x1@00", "o0,1x1@05", "p00", "d0"};
        for (String text : zeros) {
            due(text, Due.performed(new GlassRacks(), text), -100 - (text.length() - 1));
        }

        document.says("a digit by which a number would be greater than told is not allowed.");
        String[] great = {"s10", "s0:10", "s0:0,100", "s0:0,109", "s0:0,1x100", "s0:0,1x109", "o10", "o0,999", "o0,1x990",
            "o0,1x1@1000", "o0,1x1@1009", "p10", "d100", "d109"};
        for (String text : great) {
            due(text, Due.performed(new GlassRacks(), text), -100 - (text.length() - 1));
        }
    }

    private static void faultsOfTexts(Document document) {
        document.says("The fault of the text is the index, from 0, of the first character that is not allowed at its place,");
        due("the first character", Due.performed(new GlassRacks(), "x1"), -100);
        due("the first of two", Due.performed(new GlassRacks(), "d1;s0;p9"), -105);
        due("a sign for another", Due.performed(new GlassRacks(), "s0:0,1@1"), -106);
        due("the last of 60", Due.performed(new GlassRacks(), "d1;d1;d1;d1;d1;d1;d1;d1;d1;d1;d1;d1;d1;d1;d1;d1;d1;d1;d1;d1;"), -160);

        document.says("or the length of the text if it ends too early (the empty text does).");
        due("the empty text", new GlassRacks().perform(), -100);
        String whole = "s0:0,12x3;o0,45x67@8;p1;d9";
        String commands = "........1..........2..3..4";
        for (int length = 1; length <= whole.length(); length++) {
            String text = whole.substring(0, length);
            char there = commands.charAt(length - 1);
            due(text, Due.performed(new GlassRacks(), text), there == '.' ? -100 - length : there - '0');
        }
    }

    private static void history(Document document) {
        document.says("A history of at most 4 states is kept; when one more is recorded, the oldest one is dropped;");
        GlassRacks x = new GlassRacks();
        for (int act = 1; act <= 6; act++) {
            due("a day passes", x.pass(1), 0);
            due("states", x.count(13), Math.min(act, 4));
        }

        document.says("undo() removes and restores the latest one.");
        for (int left = 3; left >= 0; left--) {
            due("undone", x.undo(), left);
            due("the day of it", x.count(0), 2 + left);
            due("states", x.count(13), left);
        }
        due("the older ones were dropped", x.undo(), NONE);
        due("the day stays", x.count(0), 2);

        document.says("Each call of a method that is described as an act, and returns no error and not NONE, records the state that was "
            + "before it.");
        Scenes.Call[] acts = {y -> y.set(0, 4), y -> y.buy(1, 0, 9, 9), y -> y.move(3, 0), y -> y.scrap(3), y -> y.order(0, 9, 9, 9),
            y -> y.cancel(0), y -> y.cut(0, 3), y -> y.plan(0), y -> y.pass(9), y -> y.perform(), y -> y.restore()};
        for (int act = 0; act < acts.length; act++) {
            Told.act("act " + act, Scenes::busy, acts[act]);
        }
        Scenes.Call[] noActs = {y -> y.set(0, 9), y -> y.set(0, 1), y -> y.buy(4, 0, 9, 9), y -> y.move(0, 0), y -> y.scrap(0),
            y -> y.order(0, 9, 0, 9), y -> y.cancel(0), y -> y.cut(0, 0), y -> y.plan(3), y -> y.plan(0), y -> y.pass(0),
            y -> y.perform(), y -> y.restore(), y -> y.type('x'), y -> y.clearText(), y -> y.keep(), y -> y.sheet(0, 0),
            y -> y.at(0, 0), y -> y.ordered(0, 0), y -> y.would(0, 0, 0), y -> y.choice(0, 0), y -> y.next(0),
            y -> y.wouldPlan(0, 0), y -> y.count(0)};
        for (int call = 0; call < noActs.length; call++) {
            x = new GlassRacks();
            x.pass(1);
            noActs[call].on(x);
            due("states behind call " + call + " that is refused or is no act", x.count(13), 1);
        }
    }

    private static void snapshot(Document document) {
        document.says("There is one snapshot, empty at first.");
        GlassRacks x = new GlassRacks();
        due("empty", x.restore(), NONE);
        due("a day passes", x.pass(3), 0);
        due("still empty", x.restore(), NONE);
        due("taken", x.keep(), 3);
        due("a day passes", x.pass(3), 0);
        due("taken once more", x.keep(), 6);
        due("a day passes", x.pass(3), 0);
        due("the latter one", x.restore(), 6);

        document.says("A state is everything but the text, the history and the snapshot.");
        x = new GlassRacks();
        x.keep();
        Due.typeAll(x, "d7");
        due("four acts", x.perform(), 1);
        due("four acts", x.set(0, 5), 1);
        due("four acts", x.buy(0, 0, 9, 9), 0);
        due("four acts", x.order(0, 9, 9, 9), 0);
        x.set(1, 20);
        x.set(2, 1);
        x.set(3, 9);
        x.set(4, 0);
        due("the text is typed on", x.type(';'), 3);
        due("restored", x.restore(), 0);
        Told.same("the new state", Told.state(x), Told.state(new GlassRacks()));
        due("the text is not", x.count(14), 3);
        due("nor the history", x.count(13), 4);
        due("taken anew", x.keep(), 0);
        due("undone", x.undo(), 3);
        due("the order is back", x.count(9), 1);
        due("the text stays", x.count(14), 3);
        due("the day", x.count(0), 7);
        due("the snapshot is not undone", x.restore(), 0);
    }

    private static void errors(Document document) {
        document.says("Errors are reported by the constants below.");
        due("no such sheet", new GlassRacks().scrap(0), UNKNOWN);

        document.says("Where several errors can apply, the order of the @return line is the order of the checks.");
        GlassRacks x = Scenes.rackOf(8);
        due("no such rack, a bad width, no room", x.buy(4, 0, 0, 9), UNKNOWN);
        due("no such sort, a bad width, no room", x.buy(0, 3, 0, 9), UNKNOWN);
        due("a bad width, no room", x.buy(0, 0, 0, 9), BAD_VALUE);
        due("no room", x.buy(0, 0, 9, 9), FULL);
        x.order(0, 60, 60, 0);
        x.cancel(0);
        due("no such sheet, a bad question, not to be cut", x.would(0, 8, 7), UNKNOWN);
        due("a bad question, not to be cut", x.would(0, 0, 7), BAD_VALUE);
        due("not to be cut", x.would(0, 0, 6), NONE);
        due("no such order, a bad choice", x.choice(1, 3), UNKNOWN);
        due("a bad choice, not open", x.choice(0, 3), BAD_VALUE);
        due("not open, no sheet", x.choice(0, 2), NOT_POSSIBLE);

        document.says("NONE is no error; it is returned only if no error applies.");
        due("a plan by no choice of no order", x.plan(3), BAD_VALUE);
        due("a plan of no order", x.plan(0), NONE);
        due("a place ahead of the front one", x.at(1, -1), BAD_VALUE);
        due("a place in an empty rack", x.at(1, 0), NONE);
        due("a text of a plan of no order has no error", Due.performed(x, "p0;p1"), 2);

        document.says("A call that returns an error or NONE changes nothing.");
        Told.refused("an error", Scenes::busy, y -> y.buy(0, 0, 9, 9), FULL);
        Told.refused("NONE", Scenes::busy, y -> y.set(2, 1), NONE);
        Told.refused("an error of a text", DocumentTermsTest::busyWithText, y -> y.perform(), FULL);
    }

    /** The third of its commands finds a full rack. */
    private static GlassRacks busyWithText() {
        GlassRacks x = Scenes.busy();
        x.clearText();
        Due.typeAll(x, "d1;o0,9x9@9;s0:0,9x9;s1:0,9x9");
        return x;
    }

    private static void constants(Document document) {
        GlassRacks x = new GlassRacks();
        document.says("The constants: `UNKNOWN = -1`: There is no such rack, sort, sheet or order.");
        due("UNKNOWN", UNKNOWN, -1);
        due("no such rack", x.at(4, 0), -1);
        due("no such sort", x.order(3, 9, 9, 0), -1);
        due("no such sheet", x.sheet(0, 0), -1);
        due("no such order", x.ordered(0, 0), -1);

        document.says("`BAD_VALUE = -2`: Another argument is out of range.");
        due("BAD_VALUE", BAD_VALUE, -2);
        due("a day of 1000", x.order(0, 9, 9, 1000), -2);

        document.says("`FULL = -3`: There is no more room.");
        due("FULL", FULL, -3);
        due("nine sheets", Due.performed(x, "s0:0,9x9;s0:0,9x9;s0:0,9x9;s0:0,9x9;s0:0,9x9"), 5);
        due("nine sheets", x.perform(), -3);

        document.says("`NOT_POSSIBLE = -4`: This is not possible.");
        due("NOT_POSSIBLE", NOT_POSSIBLE, -4);
        due("an order", x.order(0, 9, 10, 0), 0);
        due("it fits no such sheet", x.cut(0, 0), -4);

        document.says("`NONE = -5`: There is no such thing; not an error.");
        due("NONE", NONE, -5);
        due("no sheet for the order", x.choice(0, 0), -5);
    }
}
