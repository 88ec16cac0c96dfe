/** Promises 11 to 13: perform, type, clearText. */
public final class TextsTest {
    private static final int UNKNOWN = GlassRacks.UNKNOWN;
    private static final int FULL = GlassRacks.FULL;
    private static final int NONE = GlassRacks.NONE;

    private TextsTest() {
    }

    public static void main(String[] args) {
        promise11Commands();
        promise11Faults();
        promise11EveryPrefix();
        promise11ErrorsOfCommands();
        promise11OneAct();
        promise11SixtyCharacters();
        promise12Type();
        promise13ClearText();
        Due.finish();
    }

    private static void due(String call, long got, long want) {
        Due.due(call, got, want);
    }

    private static int performed(GlassRacks x, String text) {
        return Due.performed(x, text);
    }

    private static void promise11Commands() {
        GlassRacks x = new GlassRacks();
        due("a sheet", performed(x, "s3:2,99x1"), 1);
        due("its rack", x.at(3, 0), 0);
        due("its sort", x.sheet(0, 0), 2);
        due("its width", x.sheet(0, 1), 99);
        due("its height", x.sheet(0, 2), 1);
        due("an order", performed(x, "o1,34x56@789"), 1);
        int[] order = {1, 34, 56, 789, 0};
        for (int what = 0; what < 5; what++) {
            due("ordered " + what, x.ordered(0, what), order[what]);
        }
        due("days", performed(x, "d99"), 1);
        due("the day", x.count(0), 99);
        due("a plan", performed(x, "p2"), 1);
        due("all in one", performed(x, "s0:1,60x60;p0;d1"), 3);
        due("the order is cut", x.ordered(0, 4), 1);
        due("from", x.ordered(0, 5), 1);
        due("before the day passed", x.ordered(0, 6), 99);
        due("the day", x.count(0), 100);
        due("the text stays", x.count(14), 16);
        due("again", x.perform(), 3);
        due("another sheet", x.count(12), 4);
        due("day 0", performed(x, "o2,1x1@0"), 1);
        due("the last sort", x.ordered(1, 0), 2);
        due("it is late", x.ordered(1, 7), 1);
        due("the last day", performed(x, "o0,1x1@999"), 1);
        for (int choice = 0; choice < 3; choice++) {
            GlassRacks y = new GlassRacks();
            performed(y, "s0:0,20x20;s0:1,9x9;s1:0,29x29;s2:0,41x41;s2:1,9x9");
            due("choice " + choice, performed(y, "o0,20x20@0;p" + choice), 2);
            due("from", y.ordered(0, 5), new int[] {0, 2, 0}[choice]);
        }
    }

    private static void promise11Faults() {
        String[] texts = {
            "", "x", "S0:0,1x1", ";", " p0", "p", "p3", "p9", "p-1", "p00", "p0;", "p0;;p0", "p0 ;p0", "p0p0", "p0,",
            "d", "d0", "d01", "d100", "d99", "d9;d", "d1x", "s", "s4:0,1x1", "s10:0,1x1", "s0", "s0;", "s0:", "s0:3",
            "s0:0", "s0:00,1x1", "s0:0,", "s0:0,0x1", "s0:0,01x1", "s0:0,100x1", "s0:0,1", "s0:0,12", "s0:0,1x",
            "s0:0,1x0", "s0:0,1x100", "s0:0,1X1", "s0,0,1x1", "s0:0:1x1", "s0:0,1x1@5", "o3,1x1@0", "o0:1x1@0",
            "o0,1x1", "o0,1x1@", "o0,1x1@00", "o0,1x1@1000", "o0,1x1@01", "o0,1x1;", "o0,1x1@x", "p0;o0,1x1@5;q",
            "d109", "s19:0,1x1", "s0:19,1x1", "s0:0,109x1", "s0:0,1x109", "o19,1x1@0", "o0,109x1@0", "o0,1x109@0",
            "o0,1x1@1009", "p19", "o0,0x1@0", "o0,1x0@0", "o0,01x1@0", "d99;d109", "q0;p0", "p0;d1;s0:0,5x5;",
            "p\u0661", "p\u00b2", "p\uffff", "\u0000", "d1\u0000", "d\uff11",
        };
        int[] faults = {
            0, 0, 0, 0, 0, 1, 1, 1, 1, 2, 3, 3, 2, 2, 2,
            1, 1, 1, 3, -1, 4, 2, 1, 1, 2, 2, 2, 3, 3,
            4, 4, 5, 5, 5, 7, 6, 7, 7,
            7, 9, 6, 2, 4, 8, 1, 2,
            6, 7, 8, 10, 8, 6, 7, 12,
            3, 2, 4, 7, 9, 2, 5, 7,
            10, 2, 3, 5, 3, 7, 0, 15,
            1, 1, 1, 0, 2, 1,
        };
        due("as many", texts.length, faults.length);
        for (int i = 0; i < texts.length && i < faults.length; i++) {
            GlassRacks x = new GlassRacks();
            due("'" + texts[i] + "'", performed(x, texts[i]), faults[i] < 0 ? 1 : -100 - faults[i]);
            if (faults[i] >= 0) {
                due("nothing is done", x.count(0) + x.count(9) + x.count(12) + x.count(13), 0);
            }
        }
    }

    private static void promise11EveryPrefix() {
        String whole = "s1:2,10x99;o0,1x20@305;p1;d45";
        String ends = "9 10 22 25 28 29 21 20";
        for (int length = 0; length <= whole.length(); length++) {
            GlassRacks x = new GlassRacks();
            int answer = performed(x, whole.substring(0, length));
            boolean complete = (" " + ends + " ").contains(" " + length + " ");
            due("prefix of " + length, answer, complete ? commandsIn(whole.substring(0, length)) : -100 - length);
        }
    }

    private static int commandsIn(String text) {
        int commands = 1;
        for (int i = 0; i < text.length(); i++) {
            if (text.charAt(i) == ';') {
                commands++;
            }
        }
        return commands;
    }

    private static void promise11ErrorsOfCommands() {
        GlassRacks x = new GlassRacks();
        for (int i = 0; i < 6; i++) {
            x.buy(0, 0, 9, 9);
        }
        due("the third does not go in", performed(x, "d1;s0:0,9x9;s0:0,9x9;s0:0,9x9;d1"), FULL);
        due("none of all is done", x.count(1), 6);
        due("no day passed", x.count(0), 0);
        due("nothing is recorded that was not", x.count(13), 4);
        due("two go in", performed(x, "s0:0,9x9;s0:0,9x9"), 2);
        for (int i = 0; i < 11; i++) {
            x.order(0, 1, 1, 1);
        }
        due("two orders are too many", performed(x, "o0,1x1@1;p0;o0,1x1@1"), FULL);
        due("none is taken", x.count(9), 11);
        due("none is cut", x.count(10), 11);
        due("one is not", performed(x, "o0,1x1@1"), 1);
        for (int i = 0; i < 9; i++) {
            x.pass(99);
        }
        due("days to the end", performed(x, "d99;d9"), 2);
        due("day 999", x.count(0), 999);
        due("no day more", performed(x, "d1"), FULL);
        due("a fault comes before errors", performed(x, "d1;"), -103);
        x.undo();
        due("undone", x.count(0), 891);
        due("one day too many", performed(x, "d99;d10"), FULL);
        due("day", x.count(0), 891);

        x = new GlassRacks();
        performed(x, "s0:0,20x20;s0:0,20x20;s0:0,20x20;s0:0,20x20");
        performed(x, "s0:0,20x20;s0:0,20x20;s0:0,20x20;o0,20x20@0");
        due("room at its turn", performed(x, "s0:0,20x20;p0;s0:0,20x20"), 3);
        x.undo();
        due("no room at its turn", performed(x, "s0:0,20x20;s0:0,20x20;p0"), FULL);
    }

    private static void promise11OneAct() {
        GlassRacks x = new GlassRacks();
        due("plans of nothing", performed(x, "p0;p1;p2"), 3);
        due("are an act", x.count(13), 1);
        due("many commands", performed(x, "s0:0,20x20;o0,10x10@0;p0;d3"), 4);
        due("are one act", x.count(13), 2);
        due("undo", x.undo(), 1);
        due("none of them is left", x.count(0) + x.count(9) + x.count(12), 0);
        due("the text is no part of the state", x.count(14), 27);
        due("a plan without open orders does not stop", performed(x, "p0;s0:0,20x20;o0,10x10@0;p0;p0;d1"), 6);
        due("all are done", x.count(0) + x.count(10), 1);
        due("a plan that breaks", x.set(3, 1), 0);
        due("is done too", performed(x, "s1:0,20x20;o0,10x10@0;p0"), 3);
        due("broken", x.count(6) >= 100 ? 1 : 0, 1);
    }

    private static void promise11SixtyCharacters() {
        GlassRacks x = new GlassRacks();
        StringBuilder plans = new StringBuilder("p0");
        for (int i = 1; i < 20; i++) {
            plans.append(";p").append(i % 3);
        }
        due("twenty plans", performed(x, plans.toString()), 20);
        due("59 characters", x.count(14), 59);
        x.type(';');
        due("a text of 60 that ends too early", x.perform(), -160);
        x.clearText();
        Due.typeAll(x, plans.substring(0, 56) + "dd99");
        due("a text of 60 with a fault near its end", x.perform(), -156);
        x.clearText();
        Due.typeAll(x, plans.substring(0, 56) + ";d99");
        due("a whole text of 60", x.count(14), 60);
        due("is performed", x.perform(), 20);
        due("day", x.count(0), 99);
    }

    private static void promise12Type() {
        GlassRacks x = new GlassRacks();
        for (int i = 1; i <= 60; i++) {
            due("type " + i, x.type((char) (i * 1091)), i);
        }
        due("type more", x.type('p'), FULL);
        due("length", x.count(14), 60);
        due("typing is no act", x.count(13), 0);
        due("undo does not untype", x.undo(), NONE);
        due("length", x.count(14), 60);
        due("sheet", x.sheet(0, 0), UNKNOWN);
        x.clearText();
        due("type behind", x.type('d'), 1);
        due("type behind", x.type('7'), 2);
        due("in their order", x.perform(), 1);
        due("day", x.count(0), 7);
        due("type behind what was performed", x.type('0'), 3);
        due("perform", x.perform(), 1);
        due("day", x.count(0), 77);
    }

    private static void promise13ClearText() {
        GlassRacks x = new GlassRacks();
        due("empty", x.clearText(), 0);
        Due.typeAll(x, "d5;");
        due("three", x.clearText(), 3);
        due("empty then", x.count(14), 0);
        due("and again", x.clearText(), 0);
        due("the empty text has a fault", x.perform(), -100);
        x.type('d');
        due("what was is gone", x.perform(), -101);
        for (int i = 0; i < 70; i++) {
            x.type('p');
        }
        due("sixty", x.clearText(), 60);
        due("no act", x.count(13), 0);
    }
}
