/** The term SHEETS AND RACKS, under promises 1, 3 to 5, 8, 17, 18 and 24: empty, full, 8 sheets in a rack, 200 ever. */
public final class EdgesOfRacksTest {
    private static final int UNKNOWN = GlassRacks.UNKNOWN;
    private static final int FULL = GlassRacks.FULL;
    private static final int NONE = GlassRacks.NONE;

    private EdgesOfRacksTest() {
    }

    public static void main(String[] args) {
        newRacksAreEmpty();
        thereAreFourRacks();
        eachRackHasRoomForEight();
        goneSheetsMakeRoom();
        movedSheetsTakeRoom();
        keptPiecesTakeRoom();
        theLastOneIsAtTheFront();
        numbersInTheOrderOfComing();
        numbersAreNotUsedAgain();
        theTwoHundredth();
        keptPiecesAmongTwoHundred();
        aPlanBehindTwoHundred();
        commandsBehindTwoHundred();
        otherActsBehindTwoHundred();
        leastAndGreatestSheet();
        allRacksFull();
        Due.finish();
    }

    private static void due(String call, long got, long want) {
        Due.due(call, got, want);
    }

    private static void newRacksAreEmpty() {
        Due.about("creates empty racks, at the day 0");
        GlassRacks x = new GlassRacks();
        for (int rack = 0; rack < 4; rack++) {
            due("the front of rack " + rack, x.at(rack, 0), NONE);
        }
        for (int what = 0; what <= 14; what++) {
            due("count(" + what + ")", x.count(what), 0);
        }
    }

    private static void thereAreFourRacks() {
        Due.about("there are 4 racks, numbered from 0");
        GlassRacks x = new GlassRacks();
        for (int rack = 0; rack < 4; rack++) {
            due("buy into rack " + rack, x.buy(rack, 0, 9, 9), rack);
        }
        for (int rack = 0; rack < 4; rack++) {
            due("the rack of sheet " + rack, x.sheet(rack, 3), rack);
            due("the front of rack " + rack, x.at(rack, 0), rack);
            due("nothing behind it", x.at(rack, 1), NONE);
        }
        due("rack -1", x.at(-1, 0), UNKNOWN);
        due("rack 4", x.at(4, 0), UNKNOWN);
    }

    private static void eachRackHasRoomForEight() {
        Due.about("each has room for 8 sheets");
        for (int rack = 0; rack < 4; rack++) {
            GlassRacks x = new GlassRacks();
            for (int i = 0; i < 8; i++) {
                due("sheet " + i + " of rack " + rack, x.buy(rack, 0, 9, 9), i);
            }
            due("the ninth sheet of rack " + rack, x.buy(rack, 0, 9, 9), FULL);
            due("the eighth place", x.at(rack, 7), 0);
            due("the ninth place", x.at(rack, 8), NONE);
            due("sheets so far", x.count(12), 8);
            for (int other = 0; other < 4; other++) {
                if (other != rack) {
                    due("rack " + other + " is empty", x.at(other, 0), NONE);
                    due("rack " + other + " has room", x.buy(other, 0, 9, 9) > 0 ? 1 : 0, 1);
                }
            }
        }
    }

    private static void goneSheetsMakeRoom() {
        Due.about("a rack with 8 sheets has room again when one is gone");
        GlassRacks x = Scenes.rackOf(8);
        x.scrap(3);
        due("behind scrap", x.buy(0, 0, 9, 9), 8);
        due("full again", x.buy(0, 0, 9, 9), FULL);
        x.move(8, 1);
        due("behind move", x.buy(0, 0, 9, 9), 9);
        due("full again", x.buy(0, 0, 9, 9), FULL);
        x.order(0, 50, 50, 0);
        x.cut(0, 0);
        due("behind a cut without pieces", x.buy(0, 0, 9, 9), 10);
        due("full again", x.buy(0, 0, 9, 9), FULL);
        x.set(3, 1);
        x.move(10, 0);
        due("behind a break", x.buy(0, 0, 9, 9), 11);
        due("full again", x.buy(0, 0, 9, 9), FULL);
        x.undo();
        due("behind undo", x.buy(0, 0, 9, 9), 11);
    }

    private static void movedSheetsTakeRoom() {
        Due.about("move: FULL if it is another rack, which has 8 sheets");
        GlassRacks x = Scenes.rackOf(7);
        x.buy(1, 0, 9, 9);
        x.buy(1, 0, 9, 9);
        due("a move to 7 sheets", x.move(7, 0), 2);
        due("a move to 8 sheets", x.move(8, 0), FULL);
        due("a purchase to 8 sheets", x.buy(0, 0, 9, 9), FULL);
        due("a move within 8 sheets", x.move(0, 0), 8);
        due("the front", x.at(0, 0), 0);
        due("the rear", x.at(0, 7), 1);
        due("still eight", x.at(0, 8), NONE);
        due("a move of the front one within 8 sheets", x.move(0, 0), 1);
        due("the front", x.at(0, 0), 0);
        due("a move out of 8 sheets", x.move(0, 1), 1);
        due("a move to 7 sheets", x.move(8, 0), 2);
        // Though the sheet would break and never come to the full rack.
        x.set(3, 1);
        due("a move of a brittle sheet to 8 sheets", x.move(0, 0), FULL);
    }

    private static void keptPiecesTakeRoom() {
        Due.about("the room for 8 sheets is for kept pieces too");
        for (int sheets = 6; sheets <= 8; sheets++) {
            GlassRacks x = Scenes.rackOf(sheets);
            x.order(0, 20, 20, 0);
            int pieces = Math.min(2, 9 - sheets);
            due("the pieces kept of a cut in " + sheets, x.cut(0, 0), pieces);
            due("sheets then", x.count(1), sheets - 1 + pieces);
            due("a purchase then", x.buy(0, 0, 9, 9), sheets == 6 ? 8 : FULL);
        }
    }

    private static void theLastOneIsAtTheFront() {
        Due.about("the sheet that came last is at the front");
        GlassRacks x = new GlassRacks();
        for (int i = 0; i < 8; i++) {
            x.buy(2, 0, 9, 9);
            due("the front", x.at(2, 0), i);
            due("before it are", x.sheet(i, 4), 0);
            due("the rear", x.at(2, i), 0);
            due("before the rear are", x.sheet(0, 4), i);
        }
        x.move(3, 2);
        due("the front behind a move", x.at(2, 0), 3);
        due("the second", x.at(2, 1), 7);
        x.buy(1, 0, 9, 9);
        x.move(0, 1);
        due("the front of the other rack", x.at(1, 0), 0);
        due("what was there", x.at(1, 1), 8);
    }

    private static void numbersInTheOrderOfComing() {
        Due.about("a number from 0, in the order in which sheets came to be, kept pieces too");
        GlassRacks x = Scenes.oneCut(50, 50, 20, 20);
        due("a second one", x.buy(3, 0, 9, 9), 1);
        due("both pieces are kept", x.cut(0, 0), 2);
        due("the piece beside", x.sheet(2, 2), 20);
        due("the piece above", x.sheet(3, 1), 50);
        due("the next one that is bought", x.buy(1, 0, 9, 9), 4);
        due("sheets so far", x.count(12), 5);
    }

    private static void numbersAreNotUsedAgain() {
        Due.about("numbers of sheets that are gone are not given again, but those that are undone are");
        GlassRacks x = Scenes.rackOf(3);
        x.scrap(2);
        x.scrap(1);
        x.scrap(0);
        due("behind scraps", x.buy(0, 0, 9, 9), 3);
        x.set(3, 1);
        x.move(3, 1);
        due("behind a break", x.buy(0, 0, 9, 9), 4);
        x.undo();
        due("sheets so far", x.count(12), 4);
        due("behind undo", x.buy(0, 0, 9, 9), 4);
    }

    private static void theTwoHundredth() {
        Due.about("at most 200 ever");
        GlassRacks x = Scenes.sheetsEver(199);
        due("the 200th", x.buy(3, 2, 70, 80), 199);
        due("its width", x.sheet(199, 1), 70);
        due("sheets so far", x.count(12), 200);
        for (int rack = 0; rack < 4; rack++) {
            due("the 201st", x.buy(rack, 0, 9, 9), FULL);
        }
        due("sheets so far", x.count(12), 200);
        x.scrap(199);
        due("when it is gone", x.buy(0, 0, 9, 9), FULL);
        x.undo();
        x.undo();
        due("when it is undone", x.buy(0, 0, 9, 9), 199);
        due("the 201st", x.buy(0, 0, 9, 9), FULL);
    }

    private static void keptPiecesAmongTwoHundred() {
        Due.about("a kept piece, if there have not been 200 sheets");
        for (int ever = 197; ever <= 199; ever++) {
            GlassRacks x = Scenes.sheetsEver(ever);
            due("a sheet", x.buy(1, 0, 50, 50), ever);
            x.order(0, 20, 20, 0);
            int pieces = 199 - ever;
            due("what would be kept", x.would(0, ever, 3), 29 * 20 + 50 * 29);
            due("pieces kept at " + (ever + 1), x.cut(0, ever), pieces);
            due("sheets so far", x.count(12), 200);
            due("the front one is number", x.at(1, 0), pieces == 0 ? NONE : 199);
            due("scrap", x.count(5), (pieces < 2 ? 50 * 29 : 0) + (pieces < 1 ? 29 * 20 : 0));
            due("lost", x.count(7), 2500 - 400 - 29 * 20 - 50 * 29);
            due("buy then", x.buy(0, 0, 9, 9), FULL);
        }
        GlassRacks x = Scenes.sheetsEver(198);
        x.buy(1, 0, 30, 50);
        x.order(0, 21, 20, 0);
        due("a piece beside that is too small takes no number", x.cut(0, 198), 1);
        due("the piece above is the 200th", x.sheet(199, 2), 29);
    }

    private static void aPlanBehindTwoHundred() {
        Due.about("a plan at 200 sheets keeps no piece");
        GlassRacks x = Scenes.sheetsEver(198);
        x.buy(0, 0, 50, 50);
        x.buy(1, 0, 60, 60);
        x.order(0, 20, 20, 0);
        x.order(0, 30, 30, 0);
        due("it would cut", x.wouldPlan(0, 0), 2);
        due("scrap it would make", x.wouldPlan(0, 1), (19 * 30 + 50 * 19) + (39 * 20 + 60 * 39));
        due("it cuts", x.plan(0), 2);
        due("no sheet is left", x.count(1), 0);
        due("scrap", x.count(5), (19 * 30 + 50 * 19) + (39 * 20 + 60 * 39));
    }

    private static void commandsBehindTwoHundred() {
        Due.about("commands: FULL if there have been 200");
        GlassRacks x = Scenes.sheetsEver(198);
        due("to 200", Due.performed(x, "s0:0,9x9;s3:0,9x9"), 2);
        due("the last one", x.at(3, 0), 199);
        x.undo();
        due("to 201", Due.performed(x, "s0:0,9x9;s3:0,9x9;s1:0,9x9"), FULL);
        due("none is bought", x.count(12), 198);
    }

    private static void otherActsBehindTwoHundred() {
        Due.about("at 200 sheets other acts go on");
        GlassRacks x = Scenes.sheetsEver(199);
        x.buy(0, 0, 50, 50);
        due("move", x.move(199, 3), 1);
        due("its rack", x.sheet(199, 3), 3);
        due("order", x.order(0, 50, 50, 0), 0);
        due("cut", x.cut(0, 199), 0);
        due("pass", x.pass(1), 0);
        x.undo();
        x.undo();
        due("scrap", x.scrap(199), 2500);
        due("area of all", x.count(4) + x.count(5) + x.count(6) + x.count(7), x.count(3));
    }

    private static void leastAndGreatestSheet() {
        Due.about("a width and a height (1 to 99 each)");
        GlassRacks x = new GlassRacks();
        x.buy(0, 0, 1, 1);
        x.buy(0, 2, 99, 99);
        x.buy(0, 1, 1, 99);
        x.buy(0, 1, 99, 1);
        int[] areas = {1, 9801, 99, 99};
        due("area in racks", x.count(2), 1 + 9801 + 99 + 99);
        due("area bought", x.count(3), 1 + 9801 + 99 + 99);
        for (int sheet = 0; sheet < 4; sheet++) {
            due("scrap of sheet " + sheet, x.scrap(sheet), areas[sheet]);
        }
        due("area in racks", x.count(2), 0);
        due("scrap", x.count(5), 10000);
    }

    private static void allRacksFull() {
        Due.about("4 racks with 8 sheets each");
        GlassRacks x = new GlassRacks();
        for (int i = 0; i < 32; i++) {
            due("buy", x.buy(i % 4, 0, 99, 99), i);
        }
        due("sheets", x.count(1), 32);
        due("area", x.count(2), 32 * 9801);
        for (int rack = 0; rack < 4; rack++) {
            due("buy more", x.buy(rack, 0, 9, 9), FULL);
            due("move to another full one", x.move(rack, (rack + 1) % 4), FULL);
            due("move in its own one", x.move(rack, rack), 8);
            for (int place = 0; place < 8; place++) {
                due("at(" + rack + ", " + place + ")", x.at(rack, place), place == 0 ? rack : rack + 4 * (8 - place));
            }
        }
    }
}
