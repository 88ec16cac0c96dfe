/** The term ORDERS, under promises 6, 7, 10, 19 and 20: 12 orders ever, days and lateness, whether a pane fits. */
public final class EdgesOfOrdersTest {
    private static final int FULL = GlassRacks.FULL;
    private static final int NOT_POSSIBLE = GlassRacks.NOT_POSSIBLE;
    private static final int NONE = GlassRacks.NONE;

    private EdgesOfOrdersTest() {
    }

    public static void main(String[] args) {
        twelveOrdersEver();
        cutAndCancelledOnesAmongTwelve();
        aTwelfthThatIsUndone();
        commandsForThirteen();
        openCutOrCancelled();
        lateWhenOpenBehindItsDay();
        lateWhenCutOnALaterDay();
        lateAtOnce();
        cancelledIsNotLate();
        theLastDay();
        passCountsThoseThatBecomeLate();
        dayOf999();
        paneAsLargeAsItsSheet();
        paneAsLargeAsItsSheetTurned();
        uprightComesFirst();
        turningNotAllowed();
        turningAtFirst();
        sheetOfItsSort();
        leastPaneAndGreatestPane();
        Due.finish();
    }

    private static void due(String call, long got, long want) {
        Due.due(call, got, want);
    }

    private static void twelveOrdersEver() {
        Due.about("at most 12 orders ever, numbered from 0");
        GlassRacks x = new GlassRacks();
        for (int i = 0; i < 12; i++) {
            due("order " + i, x.order(0, 9, 9, 5), i);
            due("orders so far", x.count(9), i + 1);
            due("open ones", x.count(10), i + 1);
        }
        due("the thirteenth", x.order(0, 9, 9, 5), FULL);
        due("orders so far", x.count(9), 12);
        due("the last one", x.ordered(11, 4), 0);
        due("there is no thirteenth", x.ordered(12, 4), GlassRacks.UNKNOWN);
    }

    private static void cutAndCancelledOnesAmongTwelve() {
        Due.about("12 ever: cut and cancelled ones too");
        GlassRacks x = Scenes.rackOf(2);
        for (int i = 0; i < 12; i++) {
            x.order(0, 50, 50, 5);
        }
        x.cut(0, 0);
        due("with a cut one", x.order(0, 9, 9, 5), FULL);
        for (int i = 1; i < 12; i++) {
            due("open ones behind cancel", x.cancel(i), 11 - i);
        }
        due("with none open", x.order(0, 9, 9, 5), FULL);
        due("orders so far", x.count(9), 12);
        due("open ones", x.count(10), 0);
    }

    private static void aTwelfthThatIsUndone() {
        Due.about("12 ever: not those that are undone");
        GlassRacks x = new GlassRacks();
        for (int i = 0; i < 12; i++) {
            x.order(0, 9, 9, i);
        }
        x.undo();
        due("the twelfth again", x.order(1, 8, 7, 6), 11);
        due("it is the new one", x.ordered(11, 2), 7);
        due("the thirteenth", x.order(1, 8, 7, 6), FULL);
        x.keep();
        x.restore();
        due("the thirteenth behind restore", x.order(1, 8, 7, 6), FULL);
    }

    private static void commandsForThirteen() {
        Due.about("commands: FULL if there have been 12");
        GlassRacks x = new GlassRacks();
        for (int i = 0; i < 10; i++) {
            x.order(0, 9, 9, i);
        }
        due("to 13", Due.performed(x, "o0,1x1@0;o0,2x2@1;o0,3x3@2"), FULL);
        due("none is taken", x.count(9), 10);
        due("to 12", Due.performed(x, "o0,1x1@0;o0,2x2@1"), 2);
        due("the last one", x.ordered(11, 1), 2);
    }

    private static void openCutOrCancelled() {
        Due.about("it is open, cut, or cancelled");
        GlassRacks x = Scenes.rackOf(3);
        x.order(0, 50, 50, 5);
        due("open", x.ordered(0, 4), 0);
        due("no sheet", x.ordered(0, 5), NONE);
        due("no day", x.ordered(0, 6), NONE);
        x.cut(0, 0);
        due("cut", x.ordered(0, 4), 1);
        due("from sheet 0", x.ordered(0, 5), 0);
        due("on day 0", x.ordered(0, 6), 0);
        due("cancel", x.cancel(0), NOT_POSSIBLE);
        due("cut again", x.cut(0, 1), NOT_POSSIBLE);
        x.order(0, 50, 50, 5);
        x.cancel(1);
        due("cancelled", x.ordered(1, 4), 2);
        due("no sheet", x.ordered(1, 5), NONE);
        due("no day", x.ordered(1, 6), NONE);
        due("cancel", x.cancel(1), NOT_POSSIBLE);
        due("cut", x.cut(1, 1), NOT_POSSIBLE);
    }

    private static void lateWhenOpenBehindItsDay() {
        Due.about("it is late if it is open behind its day");
        GlassRacks x = new GlassRacks();
        x.order(0, 9, 9, 3);
        for (int day = 0; day <= 6; day++) {
            due("late on day " + day, x.ordered(0, 7), day > 3 ? 1 : 0);
            due("late ones on day " + day, x.count(11), day > 3 ? 1 : 0);
            due("the day that passes makes late", x.pass(1), day == 3 ? 1 : 0);
        }
    }

    private static void lateWhenCutOnALaterDay() {
        Due.about("it is late if it is cut on a later day");
        for (int day = 2; day <= 4; day++) {
            GlassRacks x = Scenes.oneCut(50, 50, 50, 50);
            x.order(0, 50, 50, 3);
            x.cancel(0);
            x.pass(day);
            due("cut", x.cut(1, 0), 0);
            due("cut on day", x.ordered(1, 6), day);
            due("late, cut on day " + day, x.ordered(1, 7), day > 3 ? 1 : 0);
            due("late ones", x.count(11), day > 3 ? 1 : 0);
            due("no more become late", x.pass(50), 0);
            due("days behind, cut on day " + day, x.ordered(1, 7), day > 3 ? 1 : 0);
            due("late ones", x.count(11), day > 3 ? 1 : 0);
        }
    }

    private static void lateAtOnce() {
        Due.about("an order by a day that lies behind is late at once");
        GlassRacks x = new GlassRacks();
        x.pass(5);
        for (int day = 0; day <= 6; day++) {
            x.order(0, 9, 9, day);
            due("late, by day " + day, x.ordered(day, 7), day < 5 ? 1 : 0);
        }
        due("late ones", x.count(11), 5);
        due("one more becomes late", x.pass(1), 1);
        due("and one more", x.pass(1), 1);
        due("and no more", x.pass(1), 0);
    }

    private static void cancelledIsNotLate() {
        Due.about("a cancelled order is not late");
        GlassRacks x = new GlassRacks();
        x.order(0, 9, 9, 0);
        x.order(0, 9, 9, 1);
        x.pass(1);
        due("late before", x.ordered(0, 7), 1);
        x.cancel(0);
        x.cancel(1);
        due("not late then", x.ordered(0, 7), 0);
        due("does not become late", x.pass(1), 0);
        due("not late behind its day", x.ordered(1, 7), 0);
        due("late ones", x.count(11), 0);
    }

    private static void theLastDay() {
        Due.about("FULL if the day would become more than 999");
        for (int day = 900; day <= 902; day++) {
            GlassRacks x = Scenes.atDay(day);
            due("99 days on day " + day, x.pass(99), day == 900 ? 0 : FULL);
            due("the day then", x.count(0), day == 900 ? 999 : day);
        }
        GlassRacks x = Scenes.atDay(998);
        due("two days on day 998", x.pass(2), FULL);
        due("one day on day 998", x.pass(1), 0);
        due("the day", x.count(0), 999);
        due("one day on day 999", x.pass(1), FULL);
        due("the day", x.count(0), 999);
        due("a command", Due.performed(x, "d1"), FULL);
        x.undo();
        due("undone", x.count(0), 998);
    }

    private static void passCountsThoseThatBecomeLate() {
        Due.about("open ones whose day lies behind then, and did not before");
        GlassRacks x = Scenes.rackOf(1);
        x.pass(10);
        int[] days = {9, 10, 11, 12, 13, 14, 109, 110};
        for (int day : days) {
            x.order(0, 50, 50, day);
        }
        x.cancel(3);
        due("days 10 to 11", x.pass(1), 1);
        x.cut(2, 0);
        due("days 11 to 13", x.pass(2), 0);
        due("the ones of 13 and 14", x.pass(2), 2);
        due("not the ones of 109 and 110", x.pass(94), 0);
        due("day", x.count(0), 109);
        due("the one of 109", x.pass(1), 1);
        due("the one of 110", x.pass(1), 1);
    }

    private static void dayOf999() {
        Due.about("a day of 999");
        GlassRacks x = Scenes.atDay(998);
        due("an order by day 999", x.order(0, 50, 50, 999), 0);
        due("an order by day 998", x.order(0, 40, 40, 998), 1);
        due("one becomes late", x.pass(1), 1);
        due("not late on day 999", x.ordered(0, 7), 0);
        due("the other is", x.ordered(1, 7), 1);
        x.buy(0, 0, 50, 50);
        due("cut on day 999", x.cut(0, 0), 0);
        due("its day", x.ordered(0, 6), 999);
        due("in time", x.ordered(0, 7), 0);
        due("keep", x.keep(), 999);
        due("restore", x.restore(), 999);
        due("no day is left", x.pass(1), FULL);
    }

    private static void fits(int sheetWidth, int sheetHeight, int width, int height, int turning, int lies) {
        GlassRacks x = Scenes.oneCut(sheetWidth, sheetHeight, width, height);
        x.set(4, turning);
        String name = width + "x" + height + " of " + sheetWidth + "x" + sheetHeight + " with turning " + turning;
        due("would " + name, x.would(0, 0, 0), lies);
        due("choice " + name, x.choice(0, 0), lies == NONE ? NONE : 0);
        due("cut " + name, x.cut(0, 0) >= 0 ? 1 : 0, lies == NONE ? 0 : 1);
        due("panes " + name, x.count(4), lies == NONE ? 0 : width * height);
        due("status " + name, x.ordered(0, 4), lies == NONE ? 0 : 1);
    }

    private static void paneAsLargeAsItsSheet() {
        Due.about("upright, if its width is at most that of the sheet and its height at most that of the sheet");
        for (int turning = 0; turning <= 1; turning++) {
            fits(40, 30, 40, 30, turning, 0);
            fits(40, 30, 39, 30, turning, 0);
            fits(40, 30, 40, 29, turning, 0);
            fits(40, 30, 41, 30, turning, NONE);
            fits(40, 30, 40, 31, turning, NONE);
            fits(40, 30, 41, 31, turning, NONE);
            fits(40, 40, 40, 40, turning, 0);
            fits(40, 40, 41, 40, turning, NONE);
            fits(40, 40, 40, 41, turning, NONE);
        }
    }

    private static void paneAsLargeAsItsSheetTurned() {
        Due.about("otherwise turned (width and height exchanged), if it fits then");
        fits(40, 30, 30, 40, 1, 1);
        fits(40, 30, 30, 39, 1, 1);
        fits(40, 30, 29, 40, 1, 1);
        fits(40, 30, 1, 31, 1, 1);
        fits(40, 30, 31, 40, 1, NONE);
        fits(40, 30, 30, 41, 1, NONE);
        fits(40, 30, 31, 41, 1, NONE);
        fits(30, 40, 40, 30, 1, 1);
        fits(30, 40, 31, 1, 1, 1);
        fits(99, 1, 1, 99, 1, 1);
        fits(98, 1, 1, 99, 1, NONE);
        fits(99, 1, 2, 99, 1, NONE);
    }

    private static void uprightComesFirst() {
        Due.about("upright comes first");
        fits(40, 30, 30, 30, 1, 0);
        fits(40, 30, 29, 30, 1, 0);
        fits(40, 30, 30, 29, 1, 0);
        fits(40, 30, 1, 30, 1, 0);
        fits(40, 30, 10, 10, 1, 0);
        // 40 - 20 - 1 beside it as it lies upright; turned it would be 40 - 30 - 1.
        due("the piece beside is that of the upright pane", Scenes.oneCut(40, 30, 20, 30).would(0, 0, 1), 19 * 30);
        due("the turned pane's piece beside", Scenes.oneCut(40, 29, 20, 30).would(0, 0, 1), 9 * 20);
    }

    private static void turningNotAllowed() {
        Due.about("turned, if turning is allowed");
        fits(40, 30, 30, 40, 0, NONE);
        fits(40, 30, 1, 31, 0, NONE);
        fits(99, 1, 1, 99, 0, NONE);
        fits(40, 30, 40, 30, 0, 0);
        fits(40, 30, 1, 30, 0, 0);
    }

    private static void turningAtFirst() {
        Due.about("at first turning is allowed");
        GlassRacks x = Scenes.oneCut(40, 30, 30, 40);
        due("the setting", x.count(24), 1);
        due("how it lies", x.would(0, 0, 0), 1);
        due("cut", x.cut(0, 0), 0);
    }

    private static void sheetOfItsSort() {
        Due.about("a pane can be cut from a sheet of its sort");
        for (int sort = 0; sort < 3; sort++) {
            GlassRacks x = new GlassRacks();
            x.order(sort, 10, 10, 0);
            for (int other = 0; other < 3; other++) {
                x.buy(other, other, 10, 10);
                due("would of sort " + other + " for " + sort, x.would(0, other, 0), other == sort ? 0 : NONE);
                due("cut of sort " + other + " for " + sort, other == sort ? NOT_POSSIBLE : x.cut(0, other), NOT_POSSIBLE);
            }
            due("the sheet that is chosen", x.choice(0, 0), sort);
            due("cut", x.cut(0, sort), 0);
        }
    }

    private static void leastPaneAndGreatestPane() {
        Due.about("a width and a height of a pane (1 to 99 each)");
        fits(1, 1, 1, 1, 1, 0);
        fits(99, 99, 99, 99, 1, 0);
        fits(99, 99, 1, 1, 1, 0);
        fits(99, 98, 99, 99, 1, NONE);
        fits(98, 99, 99, 99, 1, NONE);
        fits(1, 1, 1, 2, 1, NONE);
        fits(1, 1, 2, 1, 1, NONE);
    }
}
