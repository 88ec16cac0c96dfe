/** Promises 2 to 12 and 17 to 24: the least and the greatest value of each argument, and one beyond each of them. */
public final class EdgesOfArgumentsTest {
    private static final int UNKNOWN = GlassRacks.UNKNOWN;
    private static final int BAD_VALUE = GlassRacks.BAD_VALUE;
    private static final int NONE = GlassRacks.NONE;

    private interface ByValue {
        int answer(int value);
    }

    private EdgesOfArgumentsTest() {
    }

    public static void main(String[] args) {
        setWhat();
        setValues();
        buyRack();
        buySort();
        buyWidth();
        buyHeight();
        moveSheet();
        moveRack();
        scrapSheet();
        orderSort();
        orderWidth();
        orderHeight();
        orderDay();
        cancelOrder();
        cutOrder();
        cutSheet();
        planChoice();
        passDays();
        typeCharacter();
        sheetSheet();
        sheetWhat();
        atRack();
        atPlace();
        orderedOrder();
        orderedWhat();
        wouldOrder();
        wouldSheet();
        wouldWhat();
        choiceOrder();
        choiceChoice();
        nextRank();
        wouldPlanChoice();
        wouldPlanWhat();
        countWhat();
        Due.finish();
    }

    private static void due(String call, long got, long want) {
        Due.due(call, got, want);
    }

    /** Every value from the least to the greatest one answers as it is due, those beyond are refused. */
    private static void range(String call, int least, int greatest, int refusal, ByValue got, ByValue want) {
        for (int value = least; value <= greatest; value++) {
            due(call + " with " + value, got.answer(value), want.answer(value));
        }
        beyond(call, least, greatest, refusal, got);
    }

    private static void beyond(String call, int least, int greatest, int refusal, ByValue got) {
        int[] values = {least - 1, greatest + 1, Integer.MIN_VALUE, Integer.MAX_VALUE};
        for (int value : values) {
            due(call + " with " + value, got.answer(value), refusal);
        }
    }

    private static void setWhat() {
        Due.about("set, what: 0 to 4");
        int[] toZero = {1, BAD_VALUE, NONE, NONE, 1};
        int[] toOne = {NONE, 10, 0, 0, NONE};
        range("set to 0", 0, 4, BAD_VALUE, what -> new GlassRacks().set(what, 0), what -> toZero[what]);
        range("set to 1", 0, 4, BAD_VALUE, what -> new GlassRacks().set(what, 1), what -> toOne[what]);
    }

    private static void setValues() {
        int[] least = {0, 1, 0, 0, 0};
        int[] greatest = {5, 99, 1, 50, 1};
        int[] first = {1, 10, 0, 0, 1};
        for (int setting = 0; setting < 5; setting++) {
            int what = setting;
            Due.about("set, what " + what + ": " + least[what] + " to " + greatest[what]);
            range("set", least[what], greatest[what], BAD_VALUE, value -> {
                GlassRacks x = new GlassRacks();
                int answer = x.set(what, value);
                due("count behind set(" + what + ", " + value + ")", x.count(20 + what), answer == BAD_VALUE ? first[what] : value);
                return answer;
            }, value -> value == first[what] ? NONE : first[what]);
        }
    }

    private static void buyRack() {
        Due.about("buy, rack: 0 to 3");
        range("buy", 0, 3, UNKNOWN, rack -> {
            GlassRacks x = new GlassRacks();
            int answer = x.buy(rack, 1, 20, 30);
            due("the front of rack " + rack, x.at(rack, 0), answer);
            return answer;
        }, rack -> 0);
    }

    private static void buySort() {
        Due.about("buy, sort: 0 to 2");
        range("buy", 0, 2, UNKNOWN, sort -> {
            GlassRacks x = new GlassRacks();
            int answer = x.buy(1, sort, 20, 30);
            due("its sort", x.sheet(0, 0), answer == 0 ? sort : UNKNOWN);
            return answer;
        }, sort -> 0);
    }

    private static void buyWidth() {
        Due.about("buy, width: 1 to 99");
        range("buy", 1, 99, BAD_VALUE, width -> {
            GlassRacks x = new GlassRacks();
            int answer = x.buy(1, 1, width, 30);
            due("its width", x.sheet(0, 1), answer == 0 ? width : UNKNOWN);
            return answer;
        }, width -> 0);
    }

    private static void buyHeight() {
        Due.about("buy, height: 1 to 99");
        range("buy", 1, 99, BAD_VALUE, height -> {
            GlassRacks x = new GlassRacks();
            int answer = x.buy(1, 1, 30, height);
            due("its height", x.sheet(0, 2), answer == 0 ? height : UNKNOWN);
            return answer;
        }, height -> 0);
    }

    private static void moveSheet() {
        Due.about("move, sheet: a sheet that is in a rack");
        range("move", 0, 4, UNKNOWN, sheet -> Scenes.rackOf(5).move(sheet, 1), sheet -> 5 - sheet);
        GlassRacks x = Scenes.rackOf(2);
        x.scrap(0);
        due("move of a sheet that is gone", x.move(0, 1), UNKNOWN);
        due("move in empty racks", new GlassRacks().move(0, 1), UNKNOWN);
        x = Scenes.sheetsEver(199);
        x.buy(3, 0, 9, 9);
        due("move of the last sheet ever", x.move(199, 0), 1);
        due("move of one beyond it", x.move(200, 0), UNKNOWN);
    }

    private static void moveRack() {
        Due.about("move, rack: 0 to 3");
        range("move", 0, 3, UNKNOWN, rack -> {
            GlassRacks x = Scenes.rackOf(2);
            int answer = x.move(0, rack);
            due("the front of rack " + rack, x.at(rack, 0), answer < 0 ? UNKNOWN : 0);
            return answer;
        }, rack -> 2);
    }

    private static void scrapSheet() {
        Due.about("scrap, sheet: a sheet that is in a rack");
        range("scrap", 0, 4, UNKNOWN, sheet -> Scenes.rackOf(5).scrap(sheet), sheet -> 2500);
        GlassRacks x = Scenes.rackOf(2);
        x.scrap(1);
        due("scrap of a sheet that is gone", x.scrap(1), UNKNOWN);
        due("scrap in empty racks", new GlassRacks().scrap(0), UNKNOWN);
    }

    private static void orderSort() {
        Due.about("order, sort: 0 to 2");
        range("order", 0, 2, UNKNOWN, sort -> {
            GlassRacks x = new GlassRacks();
            int answer = x.order(sort, 20, 30, 5);
            due("its sort", x.ordered(0, 0), answer == 0 ? sort : UNKNOWN);
            return answer;
        }, sort -> 0);
    }

    private static void orderWidth() {
        Due.about("order, width: 1 to 99");
        range("order", 1, 99, BAD_VALUE, width -> {
            GlassRacks x = new GlassRacks();
            int answer = x.order(1, width, 30, 5);
            due("its width", x.ordered(0, 1), answer == 0 ? width : UNKNOWN);
            return answer;
        }, width -> 0);
    }

    private static void orderHeight() {
        Due.about("order, height: 1 to 99");
        range("order", 1, 99, BAD_VALUE, height -> {
            GlassRacks x = new GlassRacks();
            int answer = x.order(1, 30, height, 5);
            due("its height", x.ordered(0, 2), answer == 0 ? height : UNKNOWN);
            return answer;
        }, height -> 0);
    }

    private static void orderDay() {
        Due.about("order, day: 0 to 999");
        range("order", 0, 999, BAD_VALUE, day -> {
            GlassRacks x = new GlassRacks();
            int answer = x.order(1, 30, 20, day);
            due("its day", x.ordered(0, 3), answer == 0 ? day : UNKNOWN);
            return answer;
        }, day -> 0);
    }

    private static GlassRacks orders(int orders) {
        GlassRacks x = Scenes.rackOf(3);
        for (int i = 0; i < orders; i++) {
            x.order(0, 10 + i, 10, 5);
        }
        return x;
    }

    private static void cancelOrder() {
        Due.about("cancel, order: an open order");
        range("cancel", 0, 4, UNKNOWN, order -> orders(5).cancel(order), order -> 4);
        range("cancel of twelve", 0, 11, UNKNOWN, order -> orders(12).cancel(order), order -> 11);
        due("cancel without orders", new GlassRacks().cancel(0), UNKNOWN);
    }

    private static void cutOrder() {
        Due.about("cut, order: an order");
        range("cut", 0, 4, UNKNOWN, order -> orders(5).cut(order, 0), order -> 2);
        range("cut of twelve", 0, 11, UNKNOWN, order -> orders(12).cut(order, 0), order -> 2);
        due("cut without orders", orders(0).cut(0, 0), UNKNOWN);
    }

    private static void cutSheet() {
        Due.about("cut, sheet: a sheet that is in a rack");
        range("cut", 0, 2, UNKNOWN, sheet -> orders(5).cut(0, sheet), sheet -> 2);
        GlassRacks x = orders(2);
        x.scrap(1);
        due("cut from a sheet that is gone", x.cut(0, 1), UNKNOWN);
        x = new GlassRacks();
        x.order(0, 5, 5, 5);
        due("cut in empty racks", x.cut(0, 0), UNKNOWN);
    }

    private static void planChoice() {
        Due.about("plan, choice: 0 to 2");
        range("plan", 0, 2, BAD_VALUE, choice -> orders(3).plan(choice), choice -> 3);
    }

    private static void passDays() {
        Due.about("pass, days: 1 to 99");
        range("pass", 1, 99, BAD_VALUE, days -> {
            GlassRacks x = orders(3);
            int answer = x.pass(days);
            due("the day", x.count(0), answer < 0 ? 0 : days);
            return answer;
        }, days -> days > 5 ? 3 : 0);
    }

    private static void typeCharacter() {
        Due.about("type, character: any character");
        for (int code = 0; code <= 0xFFFF; code += code < 0x180 || code > 0xFFF0 ? 1 : 97) {
            GlassRacks x = new GlassRacks();
            due("type of character " + code, x.type((char) code), 1);
            boolean starts = code == 's' || code == 'o' || code == 'p' || code == 'd';
            due("the fault of character " + code, x.perform(), starts ? -101 : -100);
        }
    }

    private static void sheetSheet() {
        Due.about("sheet, sheet: the number of a sheet that is in a rack");
        range("sheet", 0, 4, UNKNOWN, sheet -> Scenes.rackOf(5).sheet(sheet, 4), sheet -> 4 - sheet);
        GlassRacks x = Scenes.rackOf(2);
        x.scrap(1);
        due("sheet of one that is gone", x.sheet(1, 0), UNKNOWN);
        due("sheet in empty racks", new GlassRacks().sheet(0, 0), UNKNOWN);
        x = orders(1);
        x.cut(0, 2);
        due("a sheet that has been cut is gone", x.sheet(2, 1), UNKNOWN);
        due("its pieces are there", x.sheet(3, 5), 2);
        due("the last piece is", x.sheet(4, 5), 2);
        due("there are no more", x.sheet(5, 5), UNKNOWN);
    }

    private static void sheetWhat() {
        Due.about("sheet, what: 0 to 5");
        int[] want = {2, 40, 60, 3, 1, NONE};
        range("sheet", 0, 5, BAD_VALUE, what -> {
            GlassRacks x = new GlassRacks();
            x.buy(3, 2, 40, 60);
            x.buy(3, 1, 9, 9);
            return x.sheet(0, what);
        }, what -> want[what]);
    }

    private static void atRack() {
        Due.about("at, rack: 0 to 3");
        range("at", 0, 3, UNKNOWN, rack -> {
            GlassRacks x = new GlassRacks();
            for (int i = 0; i < 4; i++) {
                x.buy(i, 0, 9, 9);
            }
            return x.at(rack, 0);
        }, rack -> rack);
    }

    private static void atPlace() {
        Due.about("at, place: a place in it, 0 for the front one");
        for (int sheets = 0; sheets <= 8; sheets++) {
            GlassRacks x = Scenes.rackOf(sheets);
            for (int place = 0; place <= 9; place++) {
                due("at(0, " + place + ") of " + sheets, x.at(0, place), place < sheets ? sheets - 1 - place : NONE);
            }
            due("the greatest place", x.at(0, Integer.MAX_VALUE), NONE);
            due("a place of -1", x.at(0, -1), BAD_VALUE);
            due("the least place", x.at(0, Integer.MIN_VALUE), BAD_VALUE);
        }
    }

    private static void orderedOrder() {
        Due.about("ordered, order: an order");
        range("ordered", 0, 4, UNKNOWN, order -> orders(5).ordered(order, 1), order -> 10 + order);
        range("ordered of twelve", 0, 11, UNKNOWN, order -> orders(12).ordered(order, 1), order -> 10 + order);
        due("ordered without orders", new GlassRacks().ordered(0, 1), UNKNOWN);
    }

    private static void orderedWhat() {
        Due.about("ordered, what: 0 to 7");
        int[] want = {2, 40, 60, 7, 0, NONE, NONE, 0};
        range("ordered", 0, 7, BAD_VALUE, what -> {
            GlassRacks x = new GlassRacks();
            x.order(2, 40, 60, 7);
            return x.ordered(0, what);
        }, what -> want[what]);
    }

    private static void wouldOrder() {
        Due.about("would, order: an order");
        range("would", 0, 4, UNKNOWN, order -> orders(5).would(order, 0, 1), order -> (39 - order) * 10);
        range("would of twelve", 0, 11, UNKNOWN, order -> orders(12).would(order, 0, 1), order -> (39 - order) * 10);
        due("would without orders", orders(0).would(0, 0, 1), UNKNOWN);
    }

    private static void wouldSheet() {
        Due.about("would, sheet: a sheet that is in a rack");
        range("would", 0, 2, UNKNOWN, sheet -> orders(2).would(0, sheet, 6), sheet -> 3 - sheet);
        GlassRacks x = orders(2);
        x.scrap(1);
        due("would of a sheet that is gone", x.would(0, 1, 6), UNKNOWN);
    }

    private static void wouldWhat() {
        Due.about("would, what: 0 to 6");
        // A pane of 30 times 40 lies turned on 45 times 35: 4 times 30 beside, 45 times 4 above.
        int[] want = {1, 4 * 30, 45 * 4, 0, 120 + 180, 1575 - 1200 - 300, 1};
        range("would", 0, 6, BAD_VALUE, what -> Scenes.oneCut(45, 35, 30, 40).would(0, 0, what), what -> want[what]);
    }

    private static void choiceOrder() {
        Due.about("choice, order: an order");
        range("choice", 0, 4, UNKNOWN, order -> orders(5).choice(order, 0), order -> 0);
        range("choice of twelve", 0, 11, UNKNOWN, order -> orders(12).choice(order, 1), order -> 2);
        due("choice without orders", orders(0).choice(0, 0), UNKNOWN);
    }

    private static void choiceChoice() {
        Due.about("choice, choice: 0 to 2");
        range("choice", 0, 2, BAD_VALUE, choice -> orders(1).choice(0, choice), choice -> choice == 1 ? 2 : 0);
    }

    private static void nextRank() {
        Due.about("next, rank: a rank, from 0");
        for (int orders = 0; orders <= 12; orders++) {
            GlassRacks x = orders(orders);
            for (int rank = 0; rank <= 13; rank++) {
                // The later an order, the greater its pane, and the earlier its turn.
                due("next(" + rank + ") of " + orders, x.next(rank), rank < orders ? orders - 1 - rank : NONE);
            }
            due("the greatest rank", x.next(Integer.MAX_VALUE), NONE);
            due("a rank of -1", x.next(-1), BAD_VALUE);
            due("the least rank", x.next(Integer.MIN_VALUE), BAD_VALUE);
        }
    }

    private static void wouldPlanChoice() {
        Due.about("wouldPlan, choice: 0 to 2");
        range("wouldPlan", 0, 2, BAD_VALUE, choice -> orders(3).wouldPlan(choice, 0), choice -> 3);
    }

    private static void wouldPlanWhat() {
        Due.about("wouldPlan, what: 0 to 3");
        // The one sheet of 45 times 35 lies behind another one; the second lifting breaks it.
        int[] want = {0, 0, 2, 45 * 35};
        range("wouldPlan", 0, 3, BAD_VALUE, what -> {
            GlassRacks x = Scenes.oneCut(45, 35, 30, 30);
            x.buy(0, 1, 9, 9);
            x.set(3, 2);
            return x.wouldPlan(0, what);
        }, what -> want[what]);
    }

    private static void countWhat() {
        Due.about("count, what: 0 to 14, 20 to 24");
        int[] want = {0, 3, 7500, 7500, 0, 0, 0, 0, 0, 2, 2, 0, 3, 4, 5};
        range("count", 0, 14, BAD_VALUE, what -> {
            GlassRacks x = orders(2);
            Due.typeAll(x, "hello");
            return x.count(what);
        }, what -> want[what]);
        int[] settings = {1, 10, 0, 0, 1};
        range("count", 20, 24, BAD_VALUE, what -> new GlassRacks().count(what), what -> settings[what - 20]);
        for (int what = 15; what <= 19; what++) {
            due("count(" + what + ")", new GlassRacks().count(what), BAD_VALUE);
        }
    }
}
