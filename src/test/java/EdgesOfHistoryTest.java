/** The term HISTORY, under promises 14 to 16 and 24: a fifth state, an empty history, no snapshot. */
public final class EdgesOfHistoryTest {
    private static final int NONE = GlassRacks.NONE;

    private static final String[] ACTS = {"set", "buy", "move", "scrap", "order", "cancel", "cut", "plan", "pass", "perform", "restore"};

    private EdgesOfHistoryTest() {
    }

    public static void main(String[] args) {
        emptyHistory();
        fourStatesAndOneMore();
        undoOfTheLatest();
        undoBetweenActs();
        eachActRecordsOne();
        eachActDropsTheOldest();
        otherCallsRecordNone();
        refusedCallsDropNone();
        noSnapshot();
        aSnapshotOfTheFirstState();
        snapshotInPlaceOfTheOneThatWas();
        theSnapshotStays();
        restoreIsAnAct();
        restoreOfTheSameState();
        aStateIsEverythingBut();
        theTextIsNoPart();
        theHistoryIsNoPart();
        theSnapshotIsNoPart();
        daysThatAreAnswered();
        Due.finish();
    }

    private static void due(String call, long got, long want) {
        Due.due(call, got, want);
    }

    private static void emptyHistory() {
        Due.about("undo: NONE if the history is empty");
        GlassRacks x = new GlassRacks();
        due("on a new object", x.undo(), NONE);
        due("again", x.undo(), NONE);
        due("states", x.count(13), 0);
        x.pass(1);
        due("behind one act", x.undo(), 0);
        due("behind its undo", x.undo(), NONE);
        due("the day", x.count(0), 0);
    }

    private static void fourStatesAndOneMore() {
        Due.about("at most 4 states is kept; when one more is recorded, the oldest one is dropped");
        for (int acts = 0; acts <= 12; acts++) {
            GlassRacks x = new GlassRacks();
            for (int i = 1; i <= acts; i++) {
                x.pass(1);
                due("states behind " + i, x.count(13), Math.min(4, i));
            }
            int states = Math.min(4, acts);
            for (int left = states - 1; left >= 0; left--) {
                due("undo behind " + acts, x.undo(), left);
                due("states left", x.count(13), left);
                due("the day", x.count(0), acts - states + left);
            }
            due("undo of an empty history", x.undo(), NONE);
            due("the day stays", x.count(0), acts - states);
        }
    }

    private static void undoOfTheLatest() {
        Due.about("undo() removes and restores the latest one");
        GlassRacks x = new GlassRacks();
        x.buy(0, 0, 9, 9);
        x.set(2, 1);
        x.order(0, 5, 5, 5);
        due("the order goes first", x.undo(), 2);
        due("orders", x.count(9), 0);
        due("the manner is there", x.count(22), 1);
        due("then the manner", x.undo(), 1);
        due("the manner", x.count(22), 0);
        due("the sheet is there", x.count(1), 1);
        due("then the sheet", x.undo(), 0);
        due("sheets", x.count(12), 0);
    }

    private static void undoBetweenActs() {
        Due.about("what is undone is no longer in the history");
        GlassRacks x = new GlassRacks();
        for (int i = 0; i < 6; i++) {
            x.pass(10);
        }
        x.undo();
        x.undo();
        due("the day", x.count(0), 40);
        x.pass(1);
        due("states", x.count(13), 3);
        x.pass(1);
        due("states", x.count(13), 4);
        x.pass(1);
        due("states", x.count(13), 4);
        int[] days = {42, 41, 40, 30};
        for (int i = 0; i < 4; i++) {
            due("undo", x.undo(), 3 - i);
            due("the day", x.count(0), days[i]);
        }
        due("no more", x.undo(), NONE);
    }

    private static int doAct(GlassRacks x, String act) {
        switch (act) {
            case "set": return x.set(1, 30);
            case "buy": return x.buy(3, 2, 9, 9);
            case "move": return x.move(0, 3);
            case "scrap": return x.scrap(0);
            case "order": return x.order(2, 9, 9, 9);
            case "cancel": return x.cancel(1);
            case "cut": return x.cut(1, 6);
            case "plan": return x.plan(2);
            case "pass": return x.pass(7);
            case "perform": return x.perform();
            default: return x.restore();
        }
    }

    private static void eachActRecordsOne() {
        Due.about("each call of an act that returns no error and not NONE records the state that was before it");
        Scenes.Making short1 = () -> {
            GlassRacks x = Scenes.busy();
            x.undo();
            x.undo();
            return x;
        };
        for (String act : ACTS) {
            Told.act(act + " with 4 states", Scenes::busy, x -> doAct(x, act));
            Told.act(act + " with 2 states", short1, x -> doAct(x, act));
        }
    }

    private static void eachActDropsTheOldest() {
        Due.about("when one more is recorded, the oldest one is dropped, by each act");
        for (String act : ACTS) {
            GlassRacks x = Scenes.busy();
            doAct(x, act);
            for (int left = 3; left >= 0; left--) {
                due("undo behind " + act, x.undo(), left);
            }
            due("no fifth", x.undo(), NONE);
            GlassRacks twin = Scenes.busy();
            for (int i = 0; i < 3; i++) {
                twin.undo();
            }
            Told.same("behind " + act + " and four undos, as behind three", Told.state(x), Told.state(twin));
        }
    }

    private static void otherCallsRecordNone() {
        Due.about("methods that are not described as an act record nothing");
        GlassRacks x = Scenes.rackOf(3);
        x.order(0, 50, 50, 0);
        x.undo();
        int states = x.count(13);
        x.type('d');
        due("type", x.count(13), states);
        x.clearText();
        due("clearText", x.count(13), states);
        x.keep();
        due("keep", x.count(13), states);
        Told.all(x);
        due("what is told", x.count(13), states);
        due("undo takes one away", x.undo(), states - 1);
    }

    private static void refusedCallsDropNone() {
        Due.about("a call that returns an error or NONE records no state and drops none");
        GlassRacks x = Scenes.busy();
        x.set(0, 9);
        x.set(0, 2);
        x.buy(0, 0, 9, 9);
        x.move(8, 0);
        x.scrap(9);
        x.order(0, 0, 9, 9);
        x.cancel(2);
        x.cut(5, 0);
        x.plan(3);
        x.pass(0);
        x.type('x');
        x.perform();
        for (int i = 3; i >= 0; i--) {
            due("undo", x.undo(), i);
        }
        GlassRacks twin = Scenes.busy();
        for (int i = 0; i < 4; i++) {
            twin.undo();
        }
        Told.same("the oldest state", Told.state(x), Told.state(twin));
    }

    private static void noSnapshot() {
        Due.about("one snapshot, empty at first; restore: NONE if there is no snapshot");
        GlassRacks x = new GlassRacks();
        due("on a new object", x.restore(), NONE);
        x.pass(5);
        due("behind an act", x.restore(), NONE);
        due("the day stays", x.count(0), 5);
        due("states", x.count(13), 1);
        x.undo();
        due("behind undo", x.restore(), NONE);
        due("states", x.count(13), 0);
    }

    private static void aSnapshotOfTheFirstState() {
        Due.about("a snapshot of the state of a new object is a snapshot");
        GlassRacks x = new GlassRacks();
        due("keep", x.keep(), 0);
        due("restore", x.restore(), 0);
        x.buy(0, 0, 9, 9);
        x.set(3, 7);
        due("restore", x.restore(), 0);
        due("sheets", x.count(12), 0);
        due("the fragility", x.count(23), 0);
    }

    private static void snapshotInPlaceOfTheOneThatWas() {
        Due.about("keep: in place of the one that was");
        GlassRacks x = new GlassRacks();
        x.pass(3);
        due("the first", x.keep(), 3);
        x.pass(4);
        due("the second", x.keep(), 7);
        x.pass(5);
        due("restore", x.restore(), 7);
        x.undo();
        x.undo();
        due("a third one of an earlier day", x.keep(), 7);
        x.undo();
        due("a fourth one of an earlier day", x.keep(), 3);
        x.pass(1);
        due("restore", x.restore(), 3);
    }

    private static void theSnapshotStays() {
        Due.about("restores the state of the snapshot, which stays");
        GlassRacks x = Scenes.busy();
        for (int times = 0; times < 3; times++) {
            due("restore", x.restore(), 2);
            x.plan(0);
            x.pass(99);
            x.set(0, 5);
            x.cancel(1);
        }
        due("restore", x.restore(), 2);
        GlassRacks twin = Scenes.busy();
        twin.restore();
        Told.same("as behind the first restore", Told.state(x), Told.state(twin));
    }

    private static void restoreIsAnAct() {
        Due.about("restore is an act");
        GlassRacks x = Scenes.busy();
        due("restore", x.restore(), 2);
        due("states", x.count(13), 4);
        due("undo", x.undo(), 3);
        Told.same("behind restore and undo", Told.state(x), Told.state(Scenes.busy()));
        GlassRacks y = new GlassRacks();
        y.keep();
        for (int i = 1; i <= 5; i++) {
            due("restore", y.restore(), 0);
            due("states", y.count(13), Math.min(4, i));
        }
    }

    private static void restoreOfTheSameState() {
        Due.about("restore of a state that is like the present one is an act as well");
        GlassRacks x = new GlassRacks();
        x.pass(4);
        x.keep();
        due("restore", x.restore(), 4);
        due("states", x.count(13), 2);
        due("undo", x.undo(), 1);
        due("the day", x.count(0), 4);
    }

    private static void aStateIsEverythingBut() {
        Due.about("a state is everything but the text, the history and the snapshot");
        Scenes.Call[] acts = {
            x -> x.set(0, 5), x -> x.set(1, 1), x -> x.set(2, 0), x -> x.set(3, 0), x -> x.set(4, 0),
            x -> x.buy(1, 1, 5, 5), x -> x.move(0, 2), x -> x.scrap(3), x -> x.order(0, 5, 5, 5), x -> x.cancel(0),
            x -> x.cut(0, 8), x -> x.plan(0), x -> x.pass(50), x -> x.cancel(4), x -> x.move(8, 3),
        };
        GlassRacks x = Scenes.busy();
        x.keep();
        for (Scenes.Call act : acts) {
            act.on(x);
        }
        due("restore", x.restore(), 3);
        Told.same("behind restore", Told.state(x), Told.state(Scenes.busy()));
        due("the next sheet", x.buy(3, 0, 9, 9), 12);
        due("the next order", x.order(0, 9, 9, 9), 6);
    }

    private static void theTextIsNoPart() {
        Due.about("a state is everything but the text");
        GlassRacks x = new GlassRacks();
        x.pass(1);
        x.keep();
        Due.typeAll(x, "d5");
        x.pass(1);
        x.undo();
        due("the length behind undo", x.count(14), 2);
        x.restore();
        due("the length behind restore", x.count(14), 2);
        due("the text", x.perform(), 1);
        due("the day", x.count(0), 6);
        x.clearText();
        x.undo();
        due("clearText is not undone", x.count(14), 0);
        x.restore();
        due("nor by restore", x.count(14), 0);
    }

    private static void theHistoryIsNoPart() {
        Due.about("a state is everything but the history");
        GlassRacks x = new GlassRacks();
        x.keep();
        x.pass(1);
        x.pass(1);
        x.restore();
        due("restore records, and takes no state away", x.count(13), 3);
        x.keep();
        x.undo();
        x.undo();
        due("undo", x.count(13), 1);
        x.restore();
        due("states", x.count(13), 2);
        due("undo of restore", x.undo(), 1);
        due("the day", x.count(0), 1);
        due("undo of the first act", x.undo(), 0);
        due("the day", x.count(0), 0);
    }

    private static void theSnapshotIsNoPart() {
        Due.about("a state is everything but the snapshot");
        GlassRacks x = new GlassRacks();
        x.pass(3);
        x.keep();
        due("undo leaves the snapshot", x.undo(), 0);
        due("the day", x.count(0), 0);
        due("restore", x.restore(), 3);
        due("undo of restore leaves it", x.undo(), 0);
        due("restore", x.restore(), 3);
        for (int i = 0; i < 6; i++) {
            x.pass(1);
        }
        due("acts leave it", x.restore(), 3);
    }

    private static void daysThatAreAnswered() {
        Due.about("keep and restore return the day, at most 999");
        GlassRacks x = Scenes.atDay(999);
        due("keep", x.keep(), 999);
        due("undo", x.undo(), 3);
        due("the day before", x.count(0), 990);
        due("restore", x.restore(), 999);
        due("the day", x.count(0), 999);
        due("no day is left", x.pass(1), GlassRacks.FULL);
        due("undo", x.undo(), 3);
        due("the day before", x.count(0), 990);
    }
}
