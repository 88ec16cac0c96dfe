/** The term A DAY'S PLAN, under promises 9 and 21 to 23: orders of the same day and area, equal choices, none at all. */
public final class EdgesOfPlansTest {
    private static final int NONE = GlassRacks.NONE;

    private EdgesOfPlansTest() {
    }

    public static void main(String[] args) {
        noOpenOrder();
        noSheetForAnyOrder();
        byTheirDays();
        ofTheSameDayByTheirAreas();
        ofTheSameAreaByTheirNumbers();
        aPlanGoesAsNextTells();
        closedOnesAreLeftOut();
        twelveOrders();
        leastArea();
        fewestBefore();
        leastScrap();
        equalButForTheNumber();
        equalWithALaterPlace();
        scrapByACutOfNow();
        scrapIfNothingBroke();
        scrapIfThereWasRoom();
        asThingsAreThen();
        passedOver();
        brokenAndTheNextOneFollows();
        cutOnTheDay();
        wereItTheFirst();
        wouldPlanTellsThePlan();
        wouldPlanChangesNothing();
        wouldPlanOfNothing();
        Due.finish();
    }

    private static void due(String call, long got, long want) {
        Due.due(call, got, want);
    }

    private static void noOpenOrder() {
        Due.about("plan: NONE if no order is open");
        for (int choice = 0; choice < 3; choice++) {
            GlassRacks x = Scenes.rackOf(2);
            due("without orders", x.plan(choice), NONE);
            x.order(0, 50, 50, 0);
            x.order(0, 50, 50, 0);
            x.cut(0, 0);
            due("with an open one", x.wouldPlan(choice, 0), 1);
            x.cancel(1);
            int states = x.count(13);
            due("with a cut one and a cancelled one", x.plan(choice), NONE);
            due("which is no act", x.count(13), states);
        }
    }

    private static void noSheetForAnyOrder() {
        Due.about("if there is none, the order is passed over");
        for (int i = 0; i < 3; i++) {
            int choice = i;
            GlassRacks x = new GlassRacks();
            x.order(0, 50, 50, 0);
            due("in empty racks", x.plan(choice), 0);
            due("which is an act", x.count(13), 2);
            due("the order", x.ordered(0, 4), 0);
            x.buy(0, 0, 49, 50);
            x.buy(0, 1, 99, 99);
            due("with no sheet that fits", x.plan(choice), 0);
            due("nothing is lifted", x.count(8), 0);
            Told.act("plan(" + choice + ") that cuts nothing", Scenes::busy, y -> y.plan(choice));
        }
    }

    private static void turns(GlassRacks x, int... orders) {
        for (int rank = 0; rank < orders.length; rank++) {
            due("next(" + rank + ")", x.next(rank), orders[rank]);
        }
        due("next behind the last", x.next(orders.length), NONE);
    }

    private static void byTheirDays() {
        Due.about("by their days, the earliest first");
        GlassRacks x = new GlassRacks();
        int[] days = {999, 1, 0, 998, 2};
        for (int day : days) {
            // The greatest pane has the latest day.
            x.order(0, day / 11 + 1, 9, day);
        }
        turns(x, 2, 1, 4, 3, 0);
        x.pass(99);
        turns(x, 2, 1, 4, 3, 0);
    }

    private static void ofTheSameDayByTheirAreas() {
        Due.about("of several by the areas of the panes, the greatest first");
        GlassRacks x = new GlassRacks();
        int[][] panes = {{1, 1}, {99, 98}, {99, 99}, {2, 50}, {99, 1}, {98, 1}, {98, 99}};
        for (int[] pane : panes) {
            x.order(0, pane[0], pane[1], 7);
        }
        turns(x, 2, 1, 6, 3, 4, 5, 0);
        x.order(0, 1, 1, 6);
        turns(x, 7, 2, 1, 6, 3, 4, 5, 0);
    }

    private static void ofTheSameAreaByTheirNumbers() {
        Due.about("then by their numbers");
        GlassRacks x = new GlassRacks();
        int[][] panes = {{4, 6}, {24, 1}, {6, 4}, {1, 24}, {12, 2}, {3, 8}};
        for (int[] pane : panes) {
            x.order(1, pane[0], pane[1], 7);
        }
        turns(x, 0, 1, 2, 3, 4, 5);
        GlassRacks y = new GlassRacks();
        for (int i = 0; i < 12; i++) {
            y.order(i % 3, 9, 9, 3);
        }
        turns(y, 0, 1, 2, 3, 4, 5, 6, 7, 8, 9, 10, 11);
    }

    private static void aPlanGoesAsNextTells() {
        Due.about("a plan goes through the open orders, one after the other");
        int[][][] pairs = {
            {{20, 20, 5}, {30, 30, 4}, {1}}, {{20, 20, 4}, {30, 30, 5}, {0}},
            {{20, 20, 5}, {20, 21, 5}, {1}}, {{20, 21, 5}, {20, 20, 5}, {0}},
            {{20, 20, 5}, {40, 10, 5}, {0}}, {{40, 10, 5}, {20, 20, 5}, {0}},
        };
        for (int[][] pair : pairs) {
            // Only one sheet is there, and it has no piece that is kept: the first order gets it.
            GlassRacks x = new GlassRacks();
            x.set(1, 99);
            x.buy(0, 0, 45, 45);
            x.order(0, pair[0][0], pair[0][1], pair[0][2]);
            x.order(0, pair[1][0], pair[1][1], pair[1][2]);
            int first = pair[2][0];
            due("next", x.next(0), first);
            due("one is cut", x.plan(0), 1);
            due("the first", x.ordered(first, 4), 1);
            due("the other", x.ordered(1 - first, 4), 0);
        }
    }

    private static void closedOnesAreLeftOut() {
        Due.about("the open orders");
        GlassRacks x = Scenes.rackOf(4);
        for (int i = 0; i < 5; i++) {
            x.order(0, 50, 50, i);
        }
        x.cancel(0);
        x.cut(2, 0);
        turns(x, 1, 3, 4);
        due("plan", x.plan(0), 3);
        due("the cancelled one", x.ordered(0, 4), 2);
        due("the one that was cut", x.ordered(2, 5), 0);
        turns(x);
    }

    private static void twelveOrders() {
        Due.about("a plan of 12 orders");
        for (int choice = 0; choice < 3; choice++) {
            GlassRacks x = new GlassRacks();
            for (int i = 0; i < 12; i++) {
                x.buy(i % 4, 0, 50, 50);
                x.order(0, 50, 50, 0);
            }
            due("would cut", x.wouldPlan(choice, 0), 12);
            due("cuts", x.plan(choice), 12);
            due("open ones", x.count(10), 0);
            due("sheets", x.count(1), 0);
        }
    }

    private static void leastArea() {
        Due.about("choice 0: the one with the least area");
        GlassRacks x = new GlassRacks();
        x.order(0, 20, 20, 0);
        x.buy(0, 0, 30, 21);
        x.buy(0, 0, 25, 25);
        x.buy(0, 0, 19, 30);
        x.buy(0, 0, 20, 31);
        x.buy(0, 1, 20, 20);
        due("620 is less than 625 and 630", x.choice(0, 0), 3);
        x.buy(1, 0, 21, 29);
        due("609 is less", x.choice(0, 0), 5);
        x.buy(2, 0, 20, 20);
        due("as large as the pane", x.choice(0, 0), 6);
        due("it is cut from it", x.plan(0), 1);
        due("the sheet", x.ordered(0, 5), 6);
    }

    private static void fewestBefore() {
        Due.about("choice 1: the one for which the fewest sheets are before it");
        GlassRacks x = new GlassRacks();
        x.order(0, 20, 20, 0);
        x.buy(0, 0, 20, 20);
        x.buy(0, 1, 20, 20);
        x.buy(0, 1, 20, 20);
        due("two before it, but the only one", x.choice(0, 1), 0);
        x.buy(1, 0, 90, 90);
        x.buy(1, 1, 20, 20);
        due("one before it", x.choice(0, 1), 3);
        x.buy(2, 0, 99, 99);
        due("none before it", x.choice(0, 1), 5);
        x.buy(3, 0, 19, 99);
        due("none before it, but too small", x.choice(0, 1), 5);
        due("it is cut from it", x.plan(1), 1);
        due("the sheet", x.ordered(0, 5), 5);
        due("liftings", x.count(8), 1);
    }

    private static void leastScrap() {
        Due.about("choice 2: the one of which the least area would be scrap");
        GlassRacks x = new GlassRacks();
        x.order(0, 20, 20, 0);
        x.buy(0, 0, 23, 20);
        due("40 of scrap, but the only one", x.choice(0, 2), 0);
        x.buy(0, 0, 22, 21);
        due("20 of scrap", x.choice(0, 2), 1);
        x.buy(1, 0, 99, 99);
        due("no scrap, since it is kept", x.choice(0, 2), 2);
        x.buy(2, 0, 20, 20);
        due("no scrap either, but a higher number", x.choice(0, 2), 2);
        due("it is cut from it", x.plan(2), 1);
        due("the sheet", x.ordered(0, 5), 2);
        due("scrap", x.count(5), 0);
    }

    private static void equalButForTheNumber() {
        Due.about("of several always that with the lowest number");
        for (int choice = 0; choice < 3; choice++) {
            GlassRacks x = new GlassRacks();
            x.order(0, 20, 20, 0);
            for (int rack = 3; rack >= 0; rack--) {
                x.buy(rack, 0, 50, 50);
            }
            for (int sheet = 0; sheet < 4; sheet++) {
                due("the lowest by " + choice, x.choice(0, choice), sheet);
                x.scrap(sheet);
            }
            due("no more", x.choice(0, choice), NONE);
        }
        GlassRacks x = new GlassRacks();
        x.order(0, 10, 10, 0);
        x.buy(0, 0, 40, 30);
        x.buy(1, 0, 30, 40);
        x.buy(2, 0, 24, 50);
        x.buy(3, 0, 20, 60);
        due("equal areas of other sides", x.choice(0, 0), 0);
        x.scrap(0);
        due("equal areas of other sides", x.choice(0, 0), 1);
        due("equal places of other sides", x.choice(0, 1), 1);
    }

    private static void equalWithALaterPlace() {
        Due.about("the lowest number, wherever the sheets are");
        GlassRacks x = Scenes.rackOf(4);
        x.order(0, 20, 20, 0);
        due("the rearmost by area", x.choice(0, 0), 0);
        due("the rearmost by scrap", x.choice(0, 2), 0);
        due("the front one by place", x.choice(0, 1), 3);
        x.move(0, 0);
        due("the front one by area", x.choice(0, 0), 0);
        due("the front one by scrap", x.choice(0, 2), 0);
        due("the front one by place", x.choice(0, 1), 0);
        x.move(2, 3);
        x.move(1, 1);
        due("three front ones", x.choice(0, 1), 0);
        x.move(0, 2);
        due("four front ones", x.choice(0, 1), 0);
        x.scrap(0);
        due("three front ones", x.choice(0, 1), 1);
    }

    private static void scrapByACutOfNow() {
        Due.about("would be scrap (by a cut of now)");
        GlassRacks x = new GlassRacks();
        x.order(0, 20, 20, 0);
        x.buy(0, 0, 28, 40);
        x.buy(1, 0, 40, 29);
        due("manner 0: 7 times 20 or 40 times 8", x.choice(0, 2), 0);
        x.set(2, 1);
        due("manner 1: 7 times 40 or 20 times 8", x.choice(0, 2), 1);
        x.set(1, 7);
        due("all is kept with the least side 7", x.choice(0, 2), 0);
        x.set(1, 8);
        due("with the least side 8", x.choice(0, 2), 1);
        x.set(0, 5);
        due("wide cuts: 3 times 40 or 20 times 4", x.choice(0, 2), 1);
        x.set(2, 0);
        due("wide cuts by manner 0: 3 times 20 or 40 times 4", x.choice(0, 2), 0);
        x.order(0, 29, 20, 0);
        due("turned 3 times 29 and 28 times 6, or upright 6 times 20 and 40 times 4", x.choice(1, 2), 0);
        x.set(4, 0);
        due("upright alone", x.choice(1, 2), 1);
    }

    private static void scrapIfNothingBroke() {
        Due.about("would be scrap, if nothing broke");
        GlassRacks x = new GlassRacks();
        x.order(0, 20, 20, 0);
        x.buy(0, 0, 22, 20);
        x.buy(1, 0, 23, 20);
        x.set(3, 1);
        due("the one with less scrap, though both would break", x.choice(0, 2), 0);
        due("what would be scrap", x.would(0, 0, 4), 20);
        due("plan", x.plan(2), 0);
        due("it broke", x.count(6), 440);
        due("no scrap", x.count(5), 0);
        due("the other is there", x.choice(0, 2), 1);
    }

    private static void scrapIfThereWasRoom() {
        Due.about("would be scrap, if there was room");
        GlassRacks x = Scenes.rackOf(8);
        x.order(0, 20, 20, 0);
        x.buy(1, 0, 21, 21);
        x.buy(1, 0, 22, 20);
        due("no scrap of a full rack, if there was room", x.choice(0, 2), 0);
        x.plan(2);
        due("the sheet", x.ordered(0, 5), 0);
        due("there was none", x.count(5), 50 * 29);
        x = Scenes.sheetsEver(198);
        x.order(0, 20, 20, 0);
        x.buy(0, 0, 50, 50);
        x.buy(1, 0, 22, 20);
        due("no scrap at 200 sheets, if there was room", x.choice(0, 2), 198);
    }

    private static void asThingsAreThen() {
        Due.about("for each it chooses a sheet from which its pane can be cut, as things are then");
        GlassRacks x = new GlassRacks();
        x.buy(0, 0, 60, 60);
        x.order(0, 30, 30, 1);
        x.order(0, 29, 29, 2);
        x.order(0, 28, 28, 3);
        due("now it would choose the sheet for each", x.choice(2, 0), 0);
        due("three are cut", x.plan(0), 3);
        due("the first from the sheet", x.ordered(0, 5), 0);
        due("the second from the piece beside", x.ordered(1, 5), 1);
        due("the third from the piece above", x.ordered(2, 5), 2);
        due("kept of the third", x.count(1), 1);
        due("its source", x.sheet(x.at(0, 0), 5), 2);
        GlassRacks y = Scenes.oneCut(50, 50, 50, 50);
        y.order(0, 20, 20, 1);
        due("the first takes what the second would have", y.plan(0), 1);
        due("the second stays open", y.ordered(1, 4), 0);
        GlassRacks z = Scenes.rackOf(3);
        z.order(0, 50, 50, 0);
        z.order(0, 50, 50, 0);
        due("the second is before less", z.plan(1), 2);
        due("from the front one", z.ordered(0, 5), 2);
        due("then from the next one", z.ordered(1, 5), 1);
        due("liftings", z.count(8), 2);
    }

    private static void passedOver() {
        Due.about("if there is none, the order is passed over; the next ones follow");
        GlassRacks x = Scenes.rackOf(2);
        x.order(0, 60, 60, 0);
        x.order(0, 50, 50, 0);
        x.order(2, 9, 9, 0);
        x.order(0, 50, 50, 1);
        x.order(0, 50, 50, 2);
        due("two are cut", x.plan(0), 2);
        int[] status = {0, 1, 0, 1, 0};
        for (int order = 0; order < 5; order++) {
            due("order " + order, x.ordered(order, 4), status[order]);
        }
        turns(x, 0, 2, 4);
    }

    private static void brokenAndTheNextOneFollows() {
        Due.about("the order stays open, and the next one follows");
        GlassRacks x = Scenes.rackOf(2);
        x.order(0, 50, 50, 0);
        x.order(0, 50, 50, 1);
        x.move(1, 1);
        x.set(3, 2);
        due("the first sheet breaks, the second not", x.plan(0), 1);
        due("the first order is not tried again", x.ordered(0, 4), 0);
        due("the second has the other sheet", x.ordered(1, 5), 1);
        due("broken", x.count(6), 2500);
        GlassRacks y = Scenes.rackOf(3);
        y.order(0, 50, 50, 0);
        y.set(3, 1);
        due("one order breaks one sheet", y.plan(1), 0);
        due("sheets", y.count(1), 2);
        due("once more", y.plan(1), 0);
        due("sheets", y.count(1), 1);
        GlassRacks z = Scenes.rackOf(3);
        z.order(0, 50, 50, 0);
        z.set(3, 1);
        due("the rearmost one breaks all", z.plan(0), 0);
        due("sheets", z.count(1), 0);
        due("it would be passed over then", z.plan(0), 0);
        due("liftings", z.count(8), 3);
    }

    private static void cutOnTheDay() {
        Due.about("a plan cuts on the day of now, late orders too");
        GlassRacks x = Scenes.atDay(999);
        x.buy(0, 0, 50, 50);
        x.buy(0, 0, 50, 50);
        x.order(0, 50, 50, 998);
        x.order(0, 50, 50, 999);
        due("plan", x.plan(0), 2);
        due("the day", x.ordered(0, 6), 999);
        due("late", x.ordered(0, 7), 1);
        due("in time", x.ordered(1, 7), 0);
    }

    private static void wereItTheFirst() {
        Due.about("choice: the sheet that a plan would choose for it now, were it the first");
        GlassRacks x = Scenes.rackOf(1);
        for (int order = 0; order < 4; order++) {
            x.order(0, 50, 50, order);
        }
        for (int order = 0; order < 4; order++) {
            for (int choice = 0; choice < 3; choice++) {
                due("order " + order + " by " + choice, x.choice(order, choice), 0);
            }
        }
        due("one would be cut", x.wouldPlan(0, 0), 1);
    }

    private static void wouldPlanTellsThePlan() {
        Due.about("wouldPlan tells what a plan would do");
        for (int fragility = 0; fragility <= 5; fragility++) {
            for (int choice = 0; choice < 3; choice++) {
                GlassRacks x = Scenes.busy();
                x.set(3, fragility);
                x.set(1, 12);
                int[] told = new int[4];
                int[] was = {0, x.count(5), x.count(8), x.count(6)};
                for (int what = 0; what < 4; what++) {
                    told[what] = x.wouldPlan(choice, what);
                }
                String name = " by " + choice + " with a fragility of " + fragility;
                due("orders" + name, told[0], x.plan(choice));
                due("scrap" + name, told[1], x.count(5) - was[1]);
                due("liftings" + name, told[2], x.count(8) - was[2]);
                due("broken" + name, told[3], x.count(6) - was[3]);
                due("something is lifted" + name, told[2] > 0 ? 1 : 0, 1);
            }
        }
    }

    private static void wouldPlanChangesNothing() {
        Due.about("wouldPlan, choice, next and would are no acts");
        Told.refused("wouldPlan(1, 0)", Scenes::busy, x -> x.wouldPlan(1, 0), Scenes.busy().wouldPlan(1, 0));
        Told.refused("wouldPlan(2, 3)", Scenes::busy, x -> x.wouldPlan(2, 3), Scenes.busy().wouldPlan(2, 3));
        Told.refused("choice(0, 2)", Scenes::busy, x -> x.choice(0, 2), Scenes.busy().choice(0, 2));
        Told.refused("next(2)", Scenes::busy, x -> x.next(2), Scenes.busy().next(2));
        Told.refused("would(0, 8, 3)", Scenes::busy, x -> x.would(0, 8, 3), Scenes.busy().would(0, 8, 3));
        GlassRacks x = Scenes.busy();
        due("wouldPlan before an act that is refused", x.wouldPlan(0, 0) > 0 ? 1 : 0, 1);
        due("buy", x.buy(0, 0, 9, 9), GlassRacks.FULL);
        Told.same("behind both", Told.all(x), Told.all(Scenes.busy()));
    }

    private static void wouldPlanOfNothing() {
        Due.about("a plan that does nothing would cut, scrap, lift and break nothing");
        for (int choice = 0; choice < 3; choice++) {
            GlassRacks x = Scenes.rackOf(2);
            x.set(3, 1);
            for (int what = 0; what < 4; what++) {
                due("no order: " + what, x.wouldPlan(choice, what), 0);
            }
            x.order(0, 60, 60, 0);
            x.order(1, 10, 10, 0);
            for (int what = 0; what < 4; what++) {
                due("no sheet: " + what, x.wouldPlan(choice, what), 0);
            }
            x.set(3, 0);
            x.scrap(1);
            x.set(3, 1);
            x.move(0, 1);
            due("scrapped before", x.count(5), 2500);
            due("broken before", x.count(6), 2500);
            for (int what = 0; what < 4; what++) {
                due("what was scrapped, lifted and broken before counts not: " + what, x.wouldPlan(choice, what), 0);
            }
        }
    }
}
