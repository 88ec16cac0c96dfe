/** The term TEXTS, under promises 11 to 13: empty, 60 characters, ends too early, numbers, commands that are refused. */
public final class EdgesOfTextsTest {
    private static final int FULL = GlassRacks.FULL;
    private static final int NONE = GlassRacks.NONE;
    /** In place of the index of a fault: the text has none. */
    private static final int GOOD = -1;

    private EdgesOfTextsTest() {
    }

    public static void main(String[] args) {
        emptyAtFirst();
        theEmptyTextHasAFault();
        atMostSixtyCharacters();
        sixtyCharactersAreRead();
        sixtyCharactersThatEndTooEarly();
        endsTooEarly();
        separators();
        firstCharacters();
        signsBetweenNumbers();
        racks();
        sorts();
        widths();
        heights();
        passingDays();
        daysOfOrders();
        choices();
        noFaultButTheFirst();
        otherDigitsAndBlanks();
        leastAndGreatestAreDone();
        oneCommandAndTwenty();
        aLaterPurchaseIsRefused();
        aLaterOrderIsRefused();
        laterDaysAreRefused();
        theFirstErrorOfSeveral();
        whenItsTurnComes();
        aPlanThatDoesNothing();
        theTextStays();
        allOrNoneIsOneAct();
        clearTextTellsTheLength();
        Due.finish();
    }

    private static void due(String call, long got, long want) {
        Due.due(call, got, want);
    }

    /** Performs a text on a new object; a text with a fault does nothing. */
    private static void fault(String text, int want) {
        GlassRacks x = new GlassRacks();
        int commands = text.split(";", -1).length;
        due("perform of '" + text + "'", Due.performed(x, text), want == GOOD ? commands : -100 - want);
        due("states behind '" + text + "'", x.count(13), want == GOOD ? 1 : 0);
        due("the length of '" + text + "'", x.count(14), text.length());
        if (want != GOOD) {
            due("nothing is done by '" + text + "'", x.count(0) + x.count(9) + x.count(12), 0);
        }
    }

    /** A number in its place: each text of it with the index in it of the fault, or GOOD. */
    private static void number(String ahead, String behind, Object... textsAndFaults) {
        for (int i = 0; i + 1 < textsAndFaults.length; i += 2) {
            int at = (Integer) textsAndFaults[i + 1];
            fault(ahead + textsAndFaults[i] + behind, at == GOOD ? GOOD : ahead.length() + at);
            fault("d1;" + ahead + textsAndFaults[i] + behind, at == GOOD ? GOOD : 3 + ahead.length() + at);
        }
    }

    private static void emptyAtFirst() {
        Due.about("there is a text, empty at first");
        GlassRacks x = new GlassRacks();
        due("its length", x.count(14), 0);
        due("clearText", x.clearText(), 0);
        due("perform", x.perform(), -100);
    }

    private static void theEmptyTextHasAFault() {
        Due.about("the length of the text if it ends too early (the empty text does)");
        Told.refused("perform of an emptied text", () -> {
            GlassRacks x = Scenes.busy();
            x.clearText();
            return x;
        }, GlassRacks::perform, -100);
    }

    private static void atMostSixtyCharacters() {
        Due.about("a text of at most 60 characters");
        GlassRacks x = new GlassRacks();
        for (int i = 1; i <= 60; i++) {
            due("type", x.type((char) ('a' + i % 26)), i);
            due("the length", x.count(14), i);
        }
        due("the 61st", x.type('z'), FULL);
        due("again", x.type(';'), FULL);
        due("the length", x.count(14), 60);
        due("clearText", x.clearText(), 60);
        due("the first again", x.type('z'), 1);
    }

    private static void sixtyCharactersAreRead() {
        Due.about("a text of 60 characters, and of one less");
        String fifty = "s0:0,9x9;s0:0,9x9;s0:0,9x9;s0:0,9x9;s0:0,9x9;o0,9x";
        due("fifty", fifty.length(), 50);
        fault(fifty + "9@999;p0", GOOD);
        fault(fifty + "9@99;d99", GOOD);
        fault(fifty + "9@999;d10", GOOD);
        fault(fifty + "99@999;d10", GOOD);
        due("sixty", (fifty + "99@999;d10").length(), 60);
        GlassRacks x = new GlassRacks();
        due("seven commands", Due.performed(x, fifty + "99@999;d10"), 7);
        due("the last one is done", x.count(0), 10);
        // The 61st character is refused and changes nothing.
        due("the day would be 99", x.type('0'), FULL);
        due("without it", x.perform() + x.count(12), FULL + 5);
    }

    private static void sixtyCharactersThatEndTooEarly() {
        Due.about("a text of 60 characters that ends too early, and one with its fault at the end");
        String plans = "p0;p0;p0;p0;p0;p0;p0;p0;p0;p0;p0;p0;p0;p0;p0;p0;p0;p0;";
        due("fifty-four", plans.length(), 54);
        fault(plans + "p0;p0;", 60);
        fault(plans + "p0;d1d", 59);
        fault(plans + "o0,9x9", 60);
        fault(plans + "s0:0,9", 60);
        fault(plans + "p0;p2p", 59);
        fault(plans + "p0;d99", GOOD);
        fault(plans + "p0;d09", 58);
    }

    private static void endsTooEarly() {
        Due.about("or the length of the text if it ends too early");
        String[] texts = {"s0:0,9x9", "s3:2,99x99", "o0,9x9@0", "o2,99x99@999", "p0", "d1", "d99"};
        for (String text : texts) {
            for (int length = 0; length <= text.length(); length++) {
                // A number of one digit is whole already, if it is the last of its command.
                boolean whole = length == text.length()
                        || length > 1 && (text.charAt(0) == 'd' || text.charAt(0) == 's' && length > text.indexOf('x') + 1
                                || text.indexOf('@') > 0 && length > text.indexOf('@') + 1);
                fault(text.substring(0, length), whole ? GOOD : length);
                fault("p1;" + text.substring(0, length), whole ? GOOD : 3 + length);
            }
        }
    }

    private static void separators() {
        Due.about("one or more commands with \";\" between two");
        fault("p0", GOOD);
        fault("p0;p1", GOOD);
        fault("p0;p1;p2", GOOD);
        fault(";", 0);
        fault(";p0", 0);
        fault("p0;", 3);
        fault("p0;;", 3);
        fault("p0;;p1", 3);
        fault("p0p1", 2);
        fault("p0,p1", 2);
        fault("p0:p1", 2);
        fault("p0 ;p1", 2);
        fault("p0; p1", 3);
        fault("d9d9", 2);
        fault("o0,1x1@5p0", 8);
        fault("s0:0,1x1p0", 8);
        fault("s0:0,1x1;;", 9);
    }

    private static void firstCharacters() {
        Due.about("commands: \"s\", \"o\", \"p\", \"d\"");
        for (char c = 0; c < 256; c++) {
            boolean starts = c == 's' || c == 'o' || c == 'p' || c == 'd';
            fault(String.valueOf(c), starts ? 1 : 0);
            fault("d1;" + c, starts ? 4 : 3);
        }
    }

    private static void signsBetweenNumbers() {
        Due.about("the first character that is not allowed at its place: the signs between the numbers");
        String purchase = "s1:2,3x4";
        String order = "o1,2x3@4";
        for (int place : new int[] {2, 4, 6}) {
            for (char c : new char[] {':', ',', 'x', '@', ';', 'X', ' ', '-', '*', '.'}) {
                String text = purchase.substring(0, place) + c + purchase.substring(place + 1);
                fault(text, c == purchase.charAt(place) ? GOOD : place);
                text = order.substring(0, place) + c + order.substring(place + 1);
                fault(text, c == order.charAt(place) ? GOOD : place);
            }
        }
    }

    private static void racks() {
        Due.about("racks are 0 to 3");
        number("s", ":0,9x9", "0", GOOD, "1", GOOD, "2", GOOD, "3", GOOD, "4", 0, "9", 0, "", 0, "-1", 0,
                "00", 1, "03", 1, "10", 1, "30", 1, "33", 1);
    }

    private static void sorts() {
        Due.about("sorts are 0 to 2");
        number("s0:", ",9x9", "0", GOOD, "1", GOOD, "2", GOOD, "3", 0, "9", 0, "", 0, "-1", 0, "00", 1, "02", 1, "10", 1, "20", 1);
        number("o", ",9x9@9", "0", GOOD, "1", GOOD, "2", GOOD, "3", 0, "9", 0, "", 0, "-1", 0, "00", 1, "02", 1, "10", 1, "20", 1);
    }

    private static void sides(String ahead, String behind) {
        number(ahead, behind, "1", GOOD, "9", GOOD, "10", GOOD, "19", GOOD, "90", GOOD, "99", GOOD, "0", 0, "00", 0, "01", 0,
                "09", 0, "", 0, "-1", 0, "+1", 0, "100", 2, "109", 2, "990", 2, "999", 2, "1000", 2);
    }

    private static void widths() {
        Due.about("widths are 1 to 99");
        sides("s0:0,", "x9");
        sides("o0,", "x9@0");
    }

    private static void heights() {
        Due.about("heights are 1 to 99");
        // "" at the end of a text ends too early; that is the same index.
        sides("s0:0,9x", "");
        sides("s0:0,9x", ";p0");
        sides("o0,9x", "@0");
    }

    private static void passingDays() {
        Due.about("passing days are 1 to 99");
        sides("d", "");
        sides("d", ";p0");
    }

    private static void daysOfOrders() {
        Due.about("days are 0 to 999");
        for (String behind : new String[] {"", ";p0"}) {
            number("o0,9x9@", behind, "0", GOOD, "1", GOOD, "9", GOOD, "10", GOOD, "99", GOOD, "100", GOOD, "998", GOOD,
                    "999", GOOD, "00", 1, "01", 1, "09", 1, "000", 1, "", 0, "-1", 0, "1000", 3, "9990", 3, "9999", 3, "10000", 3);
        }
    }

    private static void choices() {
        Due.about("choices are 0 to 2");
        for (String behind : new String[] {"", ";p0"}) {
            number("p", behind, "0", GOOD, "1", GOOD, "2", GOOD, "3", 0, "9", 0, "", 0, "-1", 0, "00", 1, "01", 1, "10", 1, "22", 1);
        }
    }

    private static void noFaultButTheFirst() {
        Due.about("the first character that is not allowed");
        fault("x;y", 0);
        fault("d0;d0", 1);
        fault("d1;d0;d0", 4);
        fault("d1;o0,0x0@1000", 6);
        fault("s4:3,0x0", 1);
        fault("s0:3,0x0", 3);
        fault("s0:0,0x0", 5);
        fault("s0:0,9x0", 7);
    }

    private static void otherDigitsAndBlanks() {
        Due.about("signs that are like others are not allowed");
        char[] signs = {0x0660, 0x0661, 0xFF11, 0x00B2, 0x2070, ' ', '\t', '\n', 0, 0xFFFF, '0' + 256, '1' + 256};
        for (char sign : signs) {
            fault("d" + sign, 1);
            fault("d1" + sign, 2);
            fault("p" + sign, 1);
            fault("s" + sign + ":0,9x9", 1);
        }
        fault(String.valueOf((char) ('d' + 256)) + "1", 0);
        fault("d1" + (char) (';' + 256) + "d1", 2);
        fault("D1", 0);
        fault("P0", 0);
    }

    private static void leastAndGreatestAreDone() {
        Due.about("the least and the greatest numbers of commands are what is done");
        GlassRacks x = new GlassRacks();
        due("perform", Due.performed(x, "s0:0,1x1;s3:2,99x99;o0,1x1@0;o2,99x99@999;d1;d99"), 6);
        due("the least sheet", x.at(0, 0), 0);
        due("its area", x.sheet(0, 1) * x.sheet(0, 2), 1);
        due("the greatest sheet", x.at(3, 0), 1);
        due("its sort", x.sheet(1, 0), 2);
        due("its width", x.sheet(1, 1), 99);
        due("its height", x.sheet(1, 2), 99);
        int[][] orders = {{0, 1, 1, 0}, {2, 99, 99, 999}};
        for (int order = 0; order < 2; order++) {
            for (int what = 0; what < 4; what++) {
                due("ordered(" + order + ", " + what + ")", x.ordered(order, what), orders[order][what]);
            }
        }
        due("the day", x.count(0), 100);
        due("three digits", Due.performed(x, "s1:1,10x90;o1,12x34@567;d20"), 3);
        due("a width of 10", x.sheet(2, 1), 10);
        due("a height of 90", x.sheet(2, 2), 90);
        due("a width of 12", x.ordered(2, 1), 12);
        due("a height of 34", x.ordered(2, 2), 34);
        due("a day of 567", x.ordered(2, 3), 567);
        due("the day", x.count(0), 120);
    }

    private static void oneCommandAndTwenty() {
        Due.about("returns how many commands there are");
        StringBuilder text = new StringBuilder("d1");
        for (int commands = 1; commands <= 20; commands++) {
            GlassRacks x = new GlassRacks();
            due("perform of " + commands, Due.performed(x, text.toString()), commands);
            due("the day", x.count(0), commands);
            text.append(";d1");
        }
    }

    /** Performs a text that is refused by an error, on an object of a scene and on a twin. */
    private static void refused(String text, Scenes.Making scene, int want) {
        Told.refused("perform of '" + text + "'", () -> {
            GlassRacks x = scene.make();
            x.clearText();
            Due.typeAll(x, text);
            return x;
        }, GlassRacks::perform, want);
    }

    private static void aLaterPurchaseIsRefused() {
        Due.about("all of them, or none: a purchase for which there is no room");
        refused("s0:0,9x9", Scenes::busy, FULL);
        refused("d1;s0:0,9x9", Scenes::busy, FULL);
        refused("s0:0,9x9;d1", Scenes::busy, FULL);
        refused("d1;o0,9x9@9;s1:0,9x9;s0:0,9x9;d1", Scenes::busy, FULL);
        refused("s0:0,9x9;s0:0,9x9;s0:0,9x9", () -> Scenes.rackOf(6), FULL);
        refused("s0:0,9x9;s1:0,9x9;s2:0,9x9", () -> Scenes.sheetsEver(198), FULL);
    }

    private static void aLaterOrderIsRefused() {
        Due.about("all of them, or none: a thirteenth order");
        Scenes.Making eleven = () -> {
            GlassRacks x = Scenes.rackOf(3);
            for (int i = 0; i < 11; i++) {
                x.order(0, 9, 9, 5);
            }
            return x;
        };
        refused("o0,9x9@9;o0,9x9@9", eleven, FULL);
        refused("p0;d7;o0,9x9@9;o0,9x9@9;p0", eleven, FULL);
        refused("p2;p1;s3:2,9x9;o0,9x9@9;o0,9x9@9", eleven, FULL);
    }

    private static void laterDaysAreRefused() {
        Due.about("all of them, or none: days behind 999");
        refused("d1;d1", () -> Scenes.atDay(998), FULL);
        refused("s0:0,9x9;d99", () -> Scenes.atDay(901), FULL);
        refused("d50;d50;s0:0,9x9", () -> Scenes.atDay(900), FULL);
        GlassRacks x = Scenes.atDay(900);
        due("to day 999", Due.performed(x, "d50;d49;s0:0,9x9"), 3);
        due("the day", x.count(0), 999);
    }

    private static void theFirstErrorOfSeveral() {
        Due.about("-100 minus the fault of the text; otherwise the error of the first command that has one");
        GlassRacks x = Scenes.atDay(999);
        due("an error, then a fault", Due.performed(x, "d1;d0"), -104);
        due("an error, then an end too early", Due.performed(x, "d1;o"), -104);
        due("an error, then an error", Due.performed(x, "d1;d2"), FULL);
        due("the day", x.count(0), 999);
    }

    private static void whenItsTurnComes() {
        Due.about("when its turn comes");
        GlassRacks x = Scenes.rackOf(7);
        x.order(0, 50, 50, 0);
        due("a plan makes the room", Due.performed(x, "s0:0,50x50;p0;s0:0,50x50"), 3);
        due("eight sheets", x.count(1), 8);
        x.undo();
        due("the room is not yet there", Due.performed(x, "s0:0,50x50;s0:0,50x50;p0"), FULL);
        due("none", x.count(1), 7);
        GlassRacks y = new GlassRacks();
        due("what is bought and ordered is there", Due.performed(y, "s0:0,50x50;o0,50x50@0;d3;p0"), 4);
        due("cut on the day of its turn", y.ordered(0, 6), 3);
        due("late", y.ordered(0, 7), 1);
        due("what is not yet there", Due.performed(y, "o0,50x50@9;p0;s0:0,50x50"), 3);
        due("is not cut from", y.ordered(1, 4), 0);
    }

    private static void aPlanThatDoesNothing() {
        Due.about("a plan that would return NONE does nothing");
        GlassRacks x = new GlassRacks();
        due("plan", x.plan(0), NONE);
        due("alone", Due.performed(x, "p0"), 1);
        due("first", Due.performed(x, "p0;d1"), 2);
        due("last", Due.performed(x, "d1;p1"), 2);
        due("between", Due.performed(x, "d1;p2;d1"), 3);
        due("the day", x.count(0), 4);
        x.order(0, 9, 9, 9);
        due("a plan that cuts nothing", Due.performed(x, "p0;d1"), 2);
        due("the day", x.count(0), 5);
    }

    private static void theTextStays() {
        Due.about("perform: the commands of the text, which stays");
        GlassRacks x = new GlassRacks();
        Due.typeAll(x, "d9");
        for (int times = 1; times <= 3; times++) {
            due("perform", x.perform(), 1);
            due("the day", x.count(0), 9 * times);
            due("the length", x.count(14), 2);
        }
        due("one more digit", x.type('0'), 3);
        due("perform", x.perform(), 1);
        due("the day", x.count(0), 117);
        due("one more digit", x.type('0'), 4);
        due("a fault", x.perform(), -103);
        due("the text stays", x.count(14), 4);
        GlassRacks y = Scenes.atDay(999);
        Due.typeAll(y, "d9");
        due("an error", y.perform(), FULL);
        due("the text stays", y.count(14), 2);
    }

    private static void allOrNoneIsOneAct() {
        Due.about("this is one act");
        for (String text : new String[] {"d1", "d1;d1;d1;d1;d1;d1", "p0", "p0;p1;p2", "s1:0,9x9;o1,5x5@9;p0;d2"}) {
            Scenes.Making scene = () -> {
                GlassRacks x = Scenes.busy();
                x.clearText();
                Due.typeAll(x, text);
                return x;
            };
            Told.act("perform of '" + text + "'", scene, GlassRacks::perform);
            Told.act("perform of '" + text + "' on a new object", () -> {
                GlassRacks x = new GlassRacks();
                Due.typeAll(x, text);
                return x;
            }, GlassRacks::perform);
        }
    }

    private static void clearTextTellsTheLength() {
        Due.about("clearText returns the length that it had");
        for (int length = 0; length <= 61; length++) {
            GlassRacks x = new GlassRacks();
            for (int i = 0; i < length; i++) {
                x.type('d');
            }
            due("clearText of " + length, x.clearText(), Math.min(60, length));
            due("the length then", x.count(14), 0);
            due("clearText again", x.clearText(), 0);
            due("type then", x.type('d'), 1);
            due("what was is gone", x.perform(), -101);
            due("clearText is no act", x.count(13), 0);
        }
    }
}
