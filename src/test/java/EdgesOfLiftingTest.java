/** The term LIFTING AND BREAKING, under promises 4, 5, 8, 9 and 23: a fragility of 0, sheets that break while lifted. */
public final class EdgesOfLiftingTest {
    private static final int UNKNOWN = GlassRacks.UNKNOWN;
    private static final int NONE = GlassRacks.NONE;

    private EdgesOfLiftingTest() {
    }

    public static void main(String[] args) {
        eachBeforeItIsLifted();
        putBackInTheirOrder();
        countedFromZero();
        refusedCallsLiftNothing();
        fragilityOfZero();
        fragilityOfOne();
        fragilityOfFifty();
        numberOfAllLiftings();
        eachOneThatMayBreakInAMove();
        eachOneThatMayBreakInAScrap();
        eachOneThatMayBreakInACut();
        severalBreak();
        theLastOfEightBreaks();
        brokenSheetIsGone();
        breakInAMoveWithinTheRack();
        breakInAPlan();
        undoOfABreak();
        Due.finish();
    }

    private static void due(String call, long got, long want) {
        Due.due(call, got, want);
    }

    /** Four sheets of the sizes 10, 11, 12, 13 by 10 in rack 0; sheet 0 is the rearmost one. */
    private static GlassRacks fourSheets(int fragility) {
        GlassRacks x = new GlassRacks();
        for (int i = 0; i < 4; i++) {
            x.buy(0, 0, 10 + i, 10);
        }
        x.set(3, fragility);
        return x;
    }

    private static void eachBeforeItIsLifted() {
        Due.about("each sheet before it is lifted, and then the sheet itself");
        for (int sheets = 1; sheets <= 8; sheets++) {
            for (int sheet = 0; sheet < sheets; sheet++) {
                int lifted = sheets - sheet;
                String name = "sheet " + sheet + " of " + sheets;
                GlassRacks x = Scenes.rackOf(sheets);
                x.order(0, 50, 50, 0);
                due("would lift for " + name, x.would(0, sheet, 6), lifted);
                due("move of " + name, x.move(sheet, 1), lifted);
                due("liftings", x.count(8), lifted);
                x.undo();
                due("liftings undone", x.count(8), 0);
                x.scrap(sheet);
                due("liftings by scrap of " + name, x.count(8), lifted);
                x.undo();
                x.cut(0, sheet);
                due("liftings by cut from " + name, x.count(8), lifted);
            }
        }
    }

    private static void putBackInTheirOrder() {
        Due.about("those before it are put back in their order");
        for (int sheet = 0; sheet < 8; sheet++) {
            GlassRacks x = Scenes.rackOf(8);
            x.move(sheet, 1);
            for (int place = 0; place < 7; place++) {
                int there = 7 - place > sheet ? 7 - place : 6 - place;
                due("at(0, " + place + ") behind the move of " + sheet, x.at(0, place), there);
            }
            due("no eighth", x.at(0, 7), NONE);
            due("the one that was moved", x.at(1, 0), sheet);
        }
    }

    private static void countedFromZero() {
        Due.about("the liftings so far are counted (0 at first)");
        GlassRacks x = Scenes.rackOf(4);
        due("at first", x.count(8), 0);
        x.order(0, 50, 50, 0);
        x.order(0, 50, 50, 1);
        x.move(1, 1);
        due("behind a move", x.count(8), 3);
        x.scrap(2);
        due("behind a scrap", x.count(8), 5);
        x.cut(0, 3);
        due("behind a cut", x.count(8), 6);
        due("that a plan would lift", x.wouldPlan(0, 2), 1);
        x.plan(0);
        due("behind a plan", x.count(8), 7);
        x.move(1, 1);
        due("behind a move in its own rack", x.count(8), 8);
    }

    private static void refusedCallsLiftNothing() {
        Due.about("a call that returns an error changes nothing: no lifting");
        GlassRacks x = Scenes.rackOf(8);
        x.buy(1, 1, 9, 9);
        x.order(0, 50, 50, 0);
        x.set(3, 1);
        x.move(8, 0);
        x.move(9, 0);
        x.move(0, 4);
        x.scrap(9);
        x.cut(0, 8);
        x.cut(1, 0);
        x.plan(3);
        due("liftings", x.count(8), 0);
        due("broken", x.count(6), 0);
    }

    private static void fragilityOfZero() {
        Due.about("a sheet breaks if the fragility is above 0 (0 at first)");
        GlassRacks x = Scenes.rackOf(8);
        for (int i = 0; i < 60; i++) {
            x.move(x.at(0, 7), 0);
        }
        due("liftings", x.count(8), 480);
        due("broken", x.count(6), 0);
        due("sheets", x.count(1), 8);
        x.set(3, 1);
        x.set(3, 0);
        x.move(0, 1);
        due("set to 0 again", x.count(6), 0);
    }

    private static void fragilityOfOne() {
        Due.about("a fragility of 1");
        for (int sheets = 1; sheets <= 8; sheets++) {
            GlassRacks x = Scenes.rackOf(sheets);
            x.buy(1, 0, 9, 9);
            x.set(3, 1);
            due("move of the rearmost of " + sheets, x.move(0, 1), sheets);
            due("all break", x.count(6), 2500 * sheets);
            due("only the other rack has one", x.count(1), 1);
            due("its rack", x.at(1, 0), sheets);
            due("nothing came there", x.at(1, 1), NONE);
        }
    }

    private static void fragilityOfFifty() {
        Due.about("a fragility of 50");
        GlassRacks x = Scenes.rackOf(2);
        x.set(3, 50);
        for (int i = 1; i <= 100; i++) {
            x.move(x.at(0, 0), 0);
            due("broken behind lifting " + i, x.count(6), i / 50 * 2500);
        }
        due("both are gone", x.count(1), 0);
    }

    private static void numberOfAllLiftings() {
        Due.about("a sheet breaks at a lifting by which their number becomes divisible by it");
        GlassRacks x = Scenes.rackOf(4);
        for (int i = 0; i < 5; i++) {
            x.move(x.at(0, 0), 0);
        }
        x.set(3, 3);
        x.move(3, 0);
        due("the sixth lifting, the first with a fragility of 3", x.count(6), 2500);
        x.move(2, 0);
        x.set(3, 4);
        due("a number that is divisible before breaks nothing", x.count(6), 2500);
        x.move(2, 0);
        due("the eighth lifting with a fragility of 4", x.count(6), 5000);
        x.set(3, 8);
        due("a new fragility alone breaks nothing", x.count(6), 5000);
        x.move(1, 0);
        due("the ninth", x.count(6), 5000);
        x.set(3, 5);
        x.move(1, 0);
        due("the tenth with a fragility of 5", x.count(6), 7500);
    }

    private static void eachOneThatMayBreakInAMove() {
        Due.about("if the sheet that was to be taken out breaks, it is not taken out; others that break are not put back");
        for (int sheet = 0; sheet < 4; sheet++) {
            int lifted = 4 - sheet;
            for (int fragility = 2; fragility <= 5; fragility++) {
                GlassRacks x = fourSheets(fragility);
                String name = "move of " + sheet + " with a fragility of " + fragility;
                due(name, x.move(sheet, 1), lifted);
                int broken = 0;
                for (int lifting = fragility; lifting <= lifted; lifting += fragility) {
                    int breaks = 4 - lifting;
                    broken += 100 + 10 * breaks;
                    due(name + ": sheet " + breaks, x.sheet(breaks, 0), UNKNOWN);
                }
                due(name + ": broken", x.count(6), broken);
                due(name + ": in the other rack", x.at(1, 0), lifted % fragility == 0 ? NONE : sheet);
                due(name + ": sheets", x.count(1), 4 - lifted / fragility);
                due(name + ": area of all", x.count(2) + broken, x.count(3));
            }
        }
    }

    private static void eachOneThatMayBreakInAScrap() {
        Due.about("scrap: its area is scrap, if it does not break");
        for (int sheet = 0; sheet < 4; sheet++) {
            int area = 100 + 10 * sheet;
            GlassRacks x = fourSheets(4 - sheet);
            due("scrap of " + sheet + " which breaks", x.scrap(sheet), area);
            due("scrap so far", x.count(5), 0);
            due("broken", x.count(6) >= area ? 1 : 0, 1);
            due("it is gone", x.sheet(sheet, 0), UNKNOWN);
            x = fourSheets(5 - sheet);
            due("scrap of " + sheet + " which breaks not", x.scrap(sheet), area);
            due("scrap so far", x.count(5), area);
            due("broken", x.count(6), 0);
            due("it is gone", x.sheet(sheet, 0), UNKNOWN);
        }
        GlassRacks x = fourSheets(3);
        due("one before it breaks", x.scrap(0), 100);
        due("scrap so far", x.count(5), 100);
        due("broken", x.count(6), 110);
        due("the second", x.at(0, 1), 2);
        due("the front one", x.at(0, 0), 3);
    }

    private static void eachOneThatMayBreakInACut() {
        Due.about("if it breaks, nothing is cut (the order stays open)");
        for (int sheet = 0; sheet < 4; sheet++) {
            for (int fragility = 2; fragility <= 5; fragility++) {
                GlassRacks x = fourSheets(fragility);
                x.order(0, 10, 10, 0);
                boolean breaks = (4 - sheet) % fragility == 0;
                String name = "cut from " + sheet + " with a fragility of " + fragility;
                due(name, x.cut(0, sheet), breaks ? 10 : 0);
                due(name + ": the order", x.ordered(0, 4), breaks ? 0 : 1);
                due(name + ": from the sheet", x.ordered(0, 5), breaks ? NONE : sheet);
                due(name + ": on the day", x.ordered(0, 6), breaks ? NONE : 0);
                due(name + ": panes", x.count(4), breaks ? 0 : 100);
                due(name + ": open ones", x.count(10), breaks ? 1 : 0);
                due(name + ": it is gone", x.sheet(sheet, 0), UNKNOWN);
                if (breaks) {
                    due(name + ": scrap", x.count(5), 0);
                    due(name + ": lost", x.count(7), 0);
                    due(name + ": sheets so far", x.count(12), 4);
                }
            }
        }
    }

    private static void severalBreak() {
        Due.about("more than one sheet may break while they are lifted");
        GlassRacks x = Scenes.rackOf(8);
        x.set(3, 3);
        due("move of the rearmost", x.move(0, 0), 8);
        int[] left = {0, 7, 6, 4, 3, 1};
        for (int place = 0; place < left.length; place++) {
            due("at(0, " + place + ")", x.at(0, place), left[place]);
        }
        due("no more", x.at(0, 6), NONE);
        due("broken", x.count(6), 5000);
        x = Scenes.rackOf(8);
        x.set(3, 2);
        due("move of the rearmost with a fragility of 2", x.move(0, 1), 8);
        due("broken", x.count(6), 10000);
        due("the front one", x.at(0, 0), 7);
        due("the rear one", x.at(0, 3), 1);
        due("no more", x.at(0, 4), NONE);
        due("it broke too", x.at(1, 0), NONE);
    }

    private static void theLastOfEightBreaks() {
        Due.about("the sheet itself breaks behind seven that are put back");
        GlassRacks x = Scenes.rackOf(8);
        x.set(3, 8);
        due("move of the rearmost", x.move(0, 1), 8);
        due("broken", x.count(6), 2500);
        for (int place = 0; place < 7; place++) {
            due("at(0, " + place + ")", x.at(0, place), 7 - place);
        }
        due("no more", x.at(0, 7), NONE);
        due("nothing there", x.at(1, 0), NONE);
    }

    private static void brokenSheetIsGone() {
        Due.about("it is gone, and its area is broken");
        GlassRacks x = Scenes.rackOf(1);
        x.order(0, 20, 20, 0);
        x.set(3, 1);
        x.move(0, 2);
        due("sheet", x.sheet(0, 0), UNKNOWN);
        due("move", x.move(0, 2), UNKNOWN);
        due("scrap", x.scrap(0), UNKNOWN);
        due("cut", x.cut(0, 0), UNKNOWN);
        due("would", x.would(0, 0, 0), UNKNOWN);
        due("choice", x.choice(0, 0), NONE);
        due("sheets", x.count(1), 0);
        due("their area", x.count(2), 0);
        due("broken", x.count(6), 2500);
        due("scrap so far", x.count(5), 0);
        due("sheets so far", x.count(12), 1);
        due("area bought", x.count(3), 2500);
    }

    private static void breakInAMoveWithinTheRack() {
        Due.about("move to its own rack: it is taken out, and put there, if it does not break");
        GlassRacks x = fourSheets(3);
        due("the sheet itself breaks", x.move(1, 0), 3);
        int[] left = {3, 2, 0};
        for (int place = 0; place < 3; place++) {
            due("at(0, " + place + ")", x.at(0, place), left[place]);
        }
        due("no more", x.at(0, 3), NONE);
        x = fourSheets(2);
        due("one before it breaks", x.move(1, 0), 3);
        int[] whole = {1, 3, 0};
        for (int place = 0; place < 3; place++) {
            due("at(0, " + place + ")", x.at(0, place), whole[place]);
        }
        due("no more", x.at(0, 3), NONE);
    }

    private static void breakInAPlan() {
        Due.about("a plan: a sheet may break; then the order stays open, and the next one follows");
        for (int fragility = 1; fragility <= 4; fragility++) {
            GlassRacks x = Scenes.rackOf(3);
            x.order(0, 50, 50, 0);
            x.order(0, 50, 50, 0);
            x.order(0, 50, 50, 0);
            x.set(3, fragility);
            int cuts = 3 - 3 / fragility;
            due("would cut with a fragility of " + fragility, x.wouldPlan(1, 0), cuts);
            due("would break", x.wouldPlan(1, 3), 2500 * (3 / fragility));
            due("would lift", x.wouldPlan(1, 2), 3);
            due("cuts", x.plan(1), cuts);
            due("broken", x.count(6), 2500 * (3 / fragility));
            for (int order = 0; order < 3; order++) {
                due("order " + order, x.ordered(order, 4), (order + 1) % fragility == 0 ? 0 : 1);
            }
        }
    }

    private static void undoOfABreak() {
        Due.about("undo brings back what broke and the liftings that were");
        GlassRacks x = fourSheets(2);
        x.move(0, 1);
        x.undo();
        due("broken", x.count(6), 0);
        due("liftings", x.count(8), 0);
        for (int place = 0; place < 4; place++) {
            due("at(0, " + place + ")", x.at(0, place), 3 - place);
        }
        x.move(3, 0);
        due("the first lifting again", x.count(6), 0);
        x.move(3, 0);
        due("the second", x.count(6), 130);
    }
}
