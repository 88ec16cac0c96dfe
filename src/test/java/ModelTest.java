/**
 * Runs of calls by a fixed rule, each answer compared with that of PlainModel. An object gets no more than 512
 * calls, as the document promises no more, so each run asks for some of what is told now and then.
 */
public final class ModelTest {
    private static final int RUNS = 10000;
    private static final int CALLS = 512;
    /** More than one act takes (a text is typed and performed), or one look. */
    private static final int CALLS_OF_ACT = 70;
    private static final int CALLS_OF_LOOK = 28;
    private static final String SIGNS = "sopd0123456789:,x@; S/?é";

    private final Numbers numbers;
    private final GlassRacks x = new GlassRacks();
    private final PlainModel model = new PlainModel();
    private final int run;
    private int calls = 0;

    /** Numbers by a fixed rule. */
    private static final class Numbers {
        private long state;

        Numbers(long seed) {
            state = seed * 2862933555777941757L + 3037000493L;
        }

        int below(int bound) {
            state = state * 6364136223846793005L + 1442695040888963407L;
            return (int) ((state >>> 33) % bound);
        }
    }

    private ModelTest(int run) {
        this.run = run;
        this.numbers = new Numbers(run);
    }

    public static void main(String[] args) {
        for (int run = 1; run <= RUNS; run++) {
            new ModelTest(run).go();
        }
        Due.finish();
    }

    private void go() {
        if (run % 8 == 0) {
            useUpNumbers(185 + numbers.below(16));
        }
        int rarely = 2 << run % 4;
        while (calls + CALLS_OF_ACT + CALLS_OF_LOOK <= CALLS) {
            act();
            if (numbers.below(rarely) == 0) {
                look();
            }
        }
        while (calls + CALLS_OF_LOOK <= CALLS) {
            look();
        }
    }

    private void due(String name, int got, int want) {
        calls++;
        Due.due("run " + run + ", call " + calls + ": " + name, got, want);
    }

    /** Mostly a number in range, now and then one about its edges or far out. */
    private int around(int least, int greatest) {
        switch (numbers.below(24)) {
            case 0: return least - 1;
            case 1: return greatest + 1;
            case 2: return least;
            case 3: return greatest;
            case 4: return numbers.below(8) == 0 ? Integer.MIN_VALUE : least;
            case 5: return numbers.below(8) == 0 ? Integer.MAX_VALUE : greatest;
            default: return least + numbers.below(greatest - least + 1);
        }
    }

    /** The number of a sheet in a rack, mostly. */
    private int someSheet() {
        int there = model.at(numbers.below(4), numbers.below(5));
        return there >= 0 && numbers.below(12) != 0 ? there : around(0, 30);
    }

    private int someOrder() {
        return around(0, Math.max(0, model.count(9) - 1));
    }

    private int someSide() {
        return numbers.below(3) == 0 ? around(1, 25) : around(1, 99);
    }

    private void act() {
        int a = someSheet();
        int o = someOrder();
        int w = someSide();
        int h = someSide();
        int rack = around(0, 3);
        int sort = numbers.below(3) == 0 ? around(0, 2) : 0;
        int day = numbers.below(6) == 0 ? around(0, 999) : model.count(0) + numbers.below(5) - 1;
        int choice = around(0, 2);
        switch (numbers.below(24)) {
            case 0: case 1: setSomething(); break;
            case 2: case 3: case 4: case 5: case 6: case 7:
                due("buy " + rack + " " + sort + " " + w + " " + h, x.buy(rack, sort, w, h), model.buy(rack, sort, w, h));
                break;
            case 8: case 9: due("move " + a + " " + rack, x.move(a, rack), model.move(a, rack)); break;
            case 10: due("scrap " + a, x.scrap(a), model.scrap(a)); break;
            case 11: case 12: case 13: case 14:
                due("order " + sort + " " + w + " " + h + " " + day, x.order(sort, w, h, day), model.order(sort, w, h, day));
                break;
            case 15: due("cancel " + o, x.cancel(o), model.cancel(o)); break;
            case 16: case 17: due("cut " + o + " " + a, x.cut(o, a), model.cut(o, a)); break;
            case 18: due("plan " + choice, x.plan(choice), model.plan(choice)); break;
            case 19: int days = numbers.below(3) == 0 ? around(1, 99) : 1 + numbers.below(3);
                due("pass " + days, x.pass(days), model.pass(days));
                break;
            case 20: case 21: performSomething(); break;
            case 22: due("undo", x.undo(), model.undo()); break;
            default:
                if (numbers.below(2) == 0) {
                    due("keep", x.keep(), model.keep());
                } else {
                    due("restore", x.restore(), model.restore());
                }
                break;
        }
    }

    /** Buys six sheets at a time, and breaks them with one call, so that a run comes near to 200 sheets. */
    private void useUpNumbers(int sheets) {
        typeAll("s0:0,9x9;s0:0,9x9;s0:0,9x9;s0:0,9x9;s0:0,9x9;s0:0,9x9");
        due("set 3 1", x.set(3, 1), model.set(3, 1));
        while (model.count(12) + 6 <= sheets) {
            due("perform", x.perform(), model.perform());
            int rear = model.at(0, 5);
            due("scrap " + rear, x.scrap(rear), model.scrap(rear));
        }
        due("set 3 0", x.set(3, 0), model.set(3, 0));
        due("clearText", x.clearText(), model.clearText());
    }

    private void typeAll(CharSequence text) {
        for (int i = 0; i < text.length(); i++) {
            char sign = text.charAt(i);
            due("type " + sign, x.type(sign), model.type(sign));
        }
    }

    private void setSomething() {
        int what = around(0, 4);
        int value;
        switch (what) {
            case 0: value = around(0, 5); break;
            case 1: value = numbers.below(2) == 0 ? around(1, 99) : 1 + numbers.below(15); break;
            case 3: value = numbers.below(2) == 0 ? around(0, 50) : numbers.below(6); break;
            default: value = around(0, 1); break;
        }
        due("set " + what + " " + value, x.set(what, value), model.set(what, value));
    }

    private void performSomething() {
        if (numbers.below(6) != 0) {
            due("clearText", x.clearText(), model.clearText());
        }
        StringBuilder text = new StringBuilder();
        for (int more = numbers.below(7); more >= 0; more--) {
            text.append(someCommand());
            if (more > 0) {
                text.append(';');
            }
        }
        if (numbers.below(3) == 0) {
            int place = numbers.below(text.length());
            char sign = SIGNS.charAt(numbers.below(SIGNS.length()));
            switch (numbers.below(4)) {
                case 0: text.setCharAt(place, sign); break;
                case 1: text.insert(place, sign); break;
                case 2: text.deleteCharAt(place); break;
                default: text.setLength(place); break;
            }
        }
        text.setLength(Math.min(text.length(), 62));
        typeAll(text);
        due("perform " + text, x.perform(), model.perform());
    }

    private String someCommand() {
        int w = 1 + numbers.below(99);
        int h = 1 + numbers.below(99);
        int sort = numbers.below(2) == 0 ? 0 : numbers.below(3);
        switch (numbers.below(5)) {
            case 0: return "s" + numbers.below(4) + ":" + sort + "," + w + "x" + h;
            case 1: return "o" + sort + "," + w + "x" + h + "@" + (model.count(0) + numbers.below(4));
            case 2: return "d" + (numbers.below(4) == 0 ? w : 1);
            default: return "p" + numbers.below(3);
        }
    }

    /** Asks for one kind of what is told. */
    private void look() {
        int order = someOrder();
        int sheet = someSheet();
        int choice = around(0, 2);
        switch (numbers.below(8)) {
            case 0: lookAtCounts(); break;
            case 1: lookAtRack(around(0, 3)); break;
            case 2: lookAtSheet(sheet); lookAtSheet(someSheet()); break;
            case 3: lookAtOrder(order); break;
            case 4:
                for (int rank = -1; rank <= 12; rank++) {
                    due("next " + rank, x.next(rank), model.next(rank));
                }
                break;
            case 5:
                for (int what = -1; what <= 7; what++) {
                    due("would " + order + " " + sheet + " " + what, x.would(order, sheet, what), model.would(order, sheet, what));
                }
                break;
            case 6:
                for (int other = -1; other <= 12; other++) {
                    due("choice " + other + " " + choice, x.choice(other, choice), model.choice(other, choice));
                }
                break;
            default:
                for (int what = -1; what <= 4; what++) {
                    due("wouldPlan " + choice + " " + what, x.wouldPlan(choice, what), model.wouldPlan(choice, what));
                }
                break;
        }
    }

    private void lookAtCounts() {
        int area = 0;
        for (int what = 0; what <= 24; what++) {
            int got = x.count(what);
            area += what == 2 || what >= 4 && what <= 7 ? got : what == 3 ? -got : 0;
            due("count " + what, got, model.count(what));
        }
        Due.due("run " + run + ": the area bought is where it is told", area, 0);
    }

    private void lookAtRack(int rack) {
        for (int place = -1; place <= 8; place++) {
            due("at " + rack + " " + place, x.at(rack, place), model.at(rack, place));
        }
    }

    private void lookAtSheet(int sheet) {
        for (int what = -1; what <= 6; what++) {
            due("sheet " + sheet + " " + what, x.sheet(sheet, what), model.sheet(sheet, what));
        }
    }

    private void lookAtOrder(int order) {
        for (int what = -1; what <= 8; what++) {
            due("ordered " + order + " " + what, x.ordered(order, what), model.ordered(order, what));
        }
    }
}
