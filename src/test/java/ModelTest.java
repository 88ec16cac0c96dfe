/** Long runs of calls by a fixed rule, each answer compared with that of PlainModel. */
public final class ModelTest {
    private static final int RUNS = 240;
    private static final int CALLS = 500;
    private static final String SIGNS = "sopd0123456789:,x@; S/?é";

    private final Numbers numbers;
    private final GlassRacks x = new GlassRacks();
    private final PlainModel model = new PlainModel();
    private final int run;

    /** Numbers by a fixed rule. */
    private static final class Numbers {
        private long state;

        Numbers(long seed) {
            state = seed * 2862933555777941757L + 3037000493L;
        }

        int below(int bound) {
            state = state * 6364136223846793005L + 1442695040888963407L;
            return (int) ((state >>> 33) % bound);
        }
    }

    private ModelTest(int run) {
        this.run = run;
        this.numbers = new Numbers(run);
    }

    public static void main(String[] args) {
        for (int run = 1; run <= RUNS; run++) {
            new ModelTest(run).go();
        }
        Due.finish();
    }

    private void go() {
        for (int call = 0; call < CALLS; call++) {
            if (run % 8 == 0 && numbers.below(4) != 0) {
                useUpNumbers(call);
            } else {
                act(call);
            }
            if (call % 8 == 0) {
                compareAll(call);
            }
        }
    }

    private void due(int call, String name, int got, int want) {
        Due.due("run " + run + ", call " + call + ": " + name, got, want);
    }

    /** Mostly a number in range, now and then one about its edges or far out. */
    private int around(int least, int greatest) {
        switch (numbers.below(24)) {
            case 0: return least - 1;
            case 1: return greatest + 1;
            case 2: return least;
            case 3: return greatest;
            case 4: return numbers.below(8) == 0 ? Integer.MIN_VALUE : least;
            case 5: return numbers.below(8) == 0 ? Integer.MAX_VALUE : greatest;
            default: return least + numbers.below(greatest - least + 1);
        }
    }

    /** The number of a sheet in a rack, mostly. */
    private int someSheet() {
        int there = model.at(numbers.below(4), numbers.below(5));
        return there >= 0 && numbers.below(12) != 0 ? there : around(0, 30);
    }

    private int someOrder() {
        return around(0, Math.max(0, model.count(9) - 1));
    }

    private int someSide() {
        return numbers.below(3) == 0 ? around(1, 25) : around(1, 99);
    }

    private void act(int call) {
        int a = someSheet();
        int o = someOrder();
        int w = someSide();
        int h = someSide();
        int rack = around(0, 3);
        int sort = numbers.below(3) == 0 ? around(0, 2) : 0;
        int day = numbers.below(6) == 0 ? around(0, 999) : model.count(0) + numbers.below(5) - 1;
        int choice = around(0, 2);
        switch (numbers.below(24)) {
            case 0: case 1: setSomething(call); break;
            case 2: case 3: case 4: case 5: case 6: case 7:
                due(call, "buy " + rack + " " + sort + " " + w + " " + h, x.buy(rack, sort, w, h), model.buy(rack, sort, w, h));
                break;
            case 8: case 9: due(call, "move " + a + " " + rack, x.move(a, rack), model.move(a, rack)); break;
            case 10: due(call, "scrap " + a, x.scrap(a), model.scrap(a)); break;
            case 11: case 12: case 13: case 14:
                due(call, "order " + sort + " " + w + " " + h + " " + day, x.order(sort, w, h, day), model.order(sort, w, h, day));
                break;
            case 15: due(call, "cancel " + o, x.cancel(o), model.cancel(o)); break;
            case 16: case 17: due(call, "cut " + o + " " + a, x.cut(o, a), model.cut(o, a)); break;
            case 18: due(call, "plan " + choice, x.plan(choice), model.plan(choice)); break;
            case 19: int days = numbers.below(3) == 0 ? around(1, 99) : 1 + numbers.below(3);
                due(call, "pass " + days, x.pass(days), model.pass(days));
                break;
            case 20: case 21: performSomething(call); break;
            case 22: due(call, "undo", x.undo(), model.undo()); break;
            default:
                if (numbers.below(2) == 0) {
                    due(call, "keep", x.keep(), model.keep());
                } else {
                    due(call, "restore", x.restore(), model.restore());
                }
                break;
        }
    }

    /** Buys and scraps small sheets, so that a run comes to 200 sheets. */
    private void useUpNumbers(int call) {
        int sheet = model.at(numbers.below(4), 0);
        if (sheet >= 0 && numbers.below(2) == 0) {
            due(call, "scrap " + sheet, x.scrap(sheet), model.scrap(sheet));
            return;
        }
        int rack = numbers.below(4);
        int side = 30 + numbers.below(70);
        due(call, "buy " + rack, x.buy(rack, 0, side, side), model.buy(rack, 0, side, side));
    }

    private void setSomething(int call) {
        int what = around(0, 4);
        int value;
        switch (what) {
            case 0: value = around(0, 5); break;
            case 1: value = numbers.below(2) == 0 ? around(1, 99) : 1 + numbers.below(15); break;
            case 3: value = numbers.below(2) == 0 ? around(0, 50) : numbers.below(6); break;
            default: value = around(0, 1); break;
        }
        due(call, "set " + what + " " + value, x.set(what, value), model.set(what, value));
    }

    private void performSomething(int call) {
        if (numbers.below(6) != 0) {
            due(call, "clearText", x.clearText(), model.clearText());
        }
        StringBuilder text = new StringBuilder();
        for (int more = numbers.below(7); more >= 0; more--) {
            text.append(someCommand());
            if (more > 0) {
                text.append(';');
            }
        }
        if (numbers.below(3) == 0) {
            int place = numbers.below(text.length());
            char sign = SIGNS.charAt(numbers.below(SIGNS.length()));
            switch (numbers.below(4)) {
                case 0: text.setCharAt(place, sign); break;
                case 1: text.insert(place, sign); break;
                case 2: text.deleteCharAt(place); break;
                default: text.setLength(place); break;
            }
        }
        for (int i = 0; i < text.length(); i++) {
            char sign = text.charAt(i);
            due(call, "type " + sign, x.type(sign), model.type(sign));
        }
        due(call, "perform " + text, x.perform(), model.perform());
    }

    private String someCommand() {
        int w = 1 + numbers.below(99);
        int h = 1 + numbers.below(99);
        int sort = numbers.below(2) == 0 ? 0 : numbers.below(3);
        switch (numbers.below(5)) {
            case 0: return "s" + numbers.below(4) + ":" + sort + "," + w + "x" + h;
            case 1: return "o" + sort + "," + w + "x" + h + "@" + (model.count(0) + numbers.below(4));
            case 2: return "d" + (numbers.below(4) == 0 ? w : 1);
            default: return "p" + numbers.below(3);
        }
    }

    private void compareAll(int call) {
        for (int what = -1; what <= 26; what++) {
            due(call, "count " + what, x.count(what), model.count(what));
        }
        for (int rack = -1; rack <= 4; rack++) {
            for (int place = -1; place <= 8; place++) {
                int there = x.at(rack, place);
                due(call, "at " + rack + " " + place, there, model.at(rack, place));
                compareSheet(call, there);
            }
        }
        for (int order = -1; order <= 12; order++) {
            for (int what = -1; what <= 8; what++) {
                due(call, "ordered " + order + " " + what, x.ordered(order, what), model.ordered(order, what));
            }
            due(call, "next " + order, x.next(order), model.next(order));
            for (int choice = -1; choice <= 3; choice++) {
                due(call, "choice " + order + " " + choice, x.choice(order, choice), model.choice(order, choice));
            }
        }
        int order = numbers.below(13) - 1;
        int sheet = someSheet();
        for (int what = -1; what <= 7; what++) {
            due(call, "would " + order + " " + sheet + " " + what, x.would(order, sheet, what), model.would(order, sheet, what));
        }
        for (int choice = -1; choice <= 3; choice++) {
            for (int what = -1; what <= 4; what++) {
                due(call, "wouldPlan " + choice + " " + what, x.wouldPlan(choice, what), model.wouldPlan(choice, what));
            }
        }
        due(call, "area of all", x.count(2) + x.count(4) + x.count(5) + x.count(6) + x.count(7), x.count(3));
    }

    private void compareSheet(int call, int sheet) {
        for (int what = -1; what <= 6; what++) {
            due(call, "sheet " + sheet + " " + what, x.sheet(sheet, what), model.sheet(sheet, what));
        }
    }
}
