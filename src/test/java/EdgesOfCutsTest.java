/** The term CUTTING, under promises 8 and 20: sides of 0 and less, the least side and one less, the width of a cut, no room. */
public final class EdgesOfCutsTest {
    private static final int NONE = GlassRacks.NONE;

    private EdgesOfCutsTest() {
    }

    public static void main(String[] args) {
        firstSettings();
        mannerZero();
        mannerOne();
        paneAsLargeAsItsSheet();
        sidesOfZeroOrLess();
        theLeastSideAndOneLess();
        theLeastSideOfOne();
        theGreatestLeastSide();
        widthOfACutZero();
        widthOfACutFive();
        turnedPane();
        keptPiecesAreSheetsOfTheSameSort();
        thePieceBesideFirst();
        noRoomForAKeptPiece();
        noRoomNeededForScrap();
        brokenSheetsMakeRoom();
        wouldIsWithRoomAndWhole();
        theAreaOfTheSheet();
        severalCutsAddUp();
        Due.finish();
    }

    private static void due(String call, long got, long want) {
        Due.due(call, got, want);
    }

    private static GlassRacks oneCut(int[] sheet, int[] pane, int width, int least, int manner) {
        GlassRacks x = Scenes.oneCut(sheet[0], sheet[1], pane[0], pane[1]);
        x.set(0, width);
        x.set(1, least);
        x.set(2, manner);
        return x;
    }

    /** What is told before a cut with room, and what is there behind it; a piece of area 0 is none. */
    private static void cutMakes(String name, GlassRacks x, int beside, int above, boolean keepBeside, boolean keepAbove) {
        int kept = (keepBeside ? beside : 0) + (keepAbove ? above : 0);
        int pane = x.ordered(0, 1) * x.ordered(0, 2);
        int lost = x.count(2) - pane - beside - above;
        due(name + ": the piece beside", x.would(0, 0, 1), beside);
        due(name + ": the piece above", x.would(0, 0, 2), above);
        due(name + ": would be kept", x.would(0, 0, 3), kept);
        due(name + ": would be scrap", x.would(0, 0, 4), beside + above - kept);
        due(name + ": would be lost", x.would(0, 0, 5), lost);
        int pieces = (keepBeside ? 1 : 0) + (keepAbove ? 1 : 0);
        due(name + ": pieces kept", x.cut(0, 0), pieces);
        due(name + ": sheets", x.count(1), pieces);
        due(name + ": area kept", x.count(2), kept);
        due(name + ": pane", x.count(4), pane);
        due(name + ": scrap", x.count(5), beside + above - kept);
        due(name + ": lost", x.count(7), lost);
    }

    private static void firstSettings() {
        Due.about("the width of a cut (1 at first), the manner 0 (at first), the least side (10 at first)");
        cutMakes("at first", Scenes.oneCut(50, 40, 20, 15), 29 * 15, 50 * 24, true, true);
        cutMakes("9 beside", Scenes.oneCut(30, 40, 20, 15), 9 * 15, 30 * 24, false, true);
        cutMakes("10 beside", Scenes.oneCut(31, 40, 20, 15), 10 * 15, 31 * 24, true, true);
        cutMakes("9 above", Scenes.oneCut(50, 25, 20, 15), 29 * 15, 50 * 9, true, false);
        cutMakes("10 above", Scenes.oneCut(50, 26, 20, 15), 29 * 15, 50 * 10, true, true);
    }

    private static void mannerZero() {
        Due.about("manner 0: beside is W - w - c wide and h high, above W wide and H - h - c high");
        int[] sheet = {80, 70};
        int[] pane = {30, 20};
        GlassRacks x = oneCut(sheet, pane, 3, 10, 0);
        cutMakes("manner 0", x, 47 * 20, 80 * 47, true, true);
        due("beside, wide", x.sheet(1, 1), 47);
        due("beside, high", x.sheet(1, 2), 20);
        due("above, wide", x.sheet(2, 1), 80);
        due("above, high", x.sheet(2, 2), 47);
    }

    private static void mannerOne() {
        Due.about("manner 1: beside is W - w - c wide and H high, above w wide and H - h - c high");
        int[] sheet = {80, 70};
        int[] pane = {30, 20};
        GlassRacks x = oneCut(sheet, pane, 3, 10, 1);
        cutMakes("manner 1", x, 47 * 70, 30 * 47, true, true);
        due("beside, wide", x.sheet(1, 1), 47);
        due("beside, high", x.sheet(1, 2), 70);
        due("above, wide", x.sheet(2, 1), 30);
        due("above, high", x.sheet(2, 2), 47);
    }

    private static void paneAsLargeAsItsSheet() {
        Due.about("a pane as large as its sheet, turned and not");
        int[][] sizes = {{1, 1}, {40, 30}, {30, 40}, {99, 99}, {99, 1}};
        for (int[] sheet : sizes) {
            for (int manner = 0; manner <= 1; manner++) {
                for (int width = 0; width <= 5; width++) {
                    int[] turned = {sheet[1], sheet[0]};
                    String name = sheet[0] + "x" + sheet[1] + " by manner " + manner + " and " + width;
                    cutMakes(name, oneCut(sheet, sheet, width, 1, manner), 0, 0, false, false);
                    GlassRacks x = oneCut(sheet, turned, width, 1, manner);
                    due(name + " lies", x.would(0, 0, 0), sheet[0] == sheet[1] ? 0 : 1);
                    cutMakes(name + " turned", x, 0, 0, false, false);
                }
            }
        }
    }

    private static void sidesOfZeroOrLess() {
        Due.about("a piece with a side of 0 or less is none");
        for (int width = 0; width <= 5; width++) {
            for (int rest = 0; rest <= width + 2; rest++) {
                int side = Math.max(0, rest - width);
                int[] pane = {30, 20};
                int[] wide = {30 + rest, 20};
                int[] high = {30, 20 + rest};
                int[] both = {30 + rest, 20 + rest};
                for (int manner = 0; manner <= 1; manner++) {
                    String name = rest + " beside " + width + " by manner " + manner;
                    boolean kept = side > 0;
                    cutMakes(name, oneCut(wide, pane, width, 1, manner), side * 20, 0, kept, false);
                    cutMakes(name + ", above", oneCut(high, pane, width, 1, manner), 0, side * 30, false, kept);
                    int beside = side * (manner == 0 ? 20 : 20 + rest);
                    int above = side * (manner == 0 ? 30 + rest : 30);
                    cutMakes(name + ", both", oneCut(both, pane, width, 1, manner), beside, above, kept, kept);
                }
            }
        }
    }

    private static void theLeastSideAndOneLess() {
        Due.about("a piece both of whose sides are at least the least side is kept, all others are scrap");
        for (int least = 2; least <= 30; least++) {
            int[] pane = {35, 35};
            for (int manner = 0; manner <= 1; manner++) {
                for (int side = least - 1; side <= least + 1; side++) {
                    String name = "a side of " + side + " with the least side " + least + " by manner " + manner;
                    boolean kept = side >= least;
                    int[] wide = {35 + 1 + side, 35};
                    cutMakes(name, oneCut(wide, pane, 1, least, manner), side * 35, 0, kept, false);
                    int[] high = {35, 35 + 1 + side};
                    cutMakes(name + ", above", oneCut(high, pane, 1, least, manner), 0, 35 * side, false, kept);
                    // The other side of each piece is that of the pane.
                    int[] low = {80, side};
                    int[] lowPane = {35, side};
                    cutMakes(name + ", high", oneCut(low, lowPane, 1, least, manner), 44 * side, 0, kept && least <= 44, false);
                    int[] narrow = {side, 80};
                    int[] narrowPane = {side, 35};
                    cutMakes(name + ", wide", oneCut(narrow, narrowPane, 1, least, manner), 0, 44 * side, false, kept && least <= 44);
                }
            }
        }
    }

    private static void theLeastSideOfOne() {
        Due.about("the least side 1");
        int[] sheet = {22, 22};
        int[] pane = {20, 20};
        for (int manner = 0; manner <= 1; manner++) {
            int long1 = manner == 0 ? 20 : 22;
            int long2 = manner == 0 ? 22 : 20;
            cutMakes("sides of 1", oneCut(sheet, pane, 1, 1, manner), long1, long2, true, true);
            cutMakes("sides of 0", oneCut(sheet, pane, 2, 1, manner), 0, 0, false, false);
            int[] point = {2, 1};
            int[] pointPane = {1, 1};
            cutMakes("a piece of 1 by 1", oneCut(point, pointPane, 0, 1, manner), 1, 0, true, false);
        }
    }

    private static void theGreatestLeastSide() {
        Due.about("the least side 99");
        int[] sheet = {99, 99};
        int[] pane = {1, 1};
        cutMakes("99 by manner 0", oneCut(sheet, pane, 0, 99, 0), 98, 99 * 98, false, false);
        cutMakes("99 by manner 1", oneCut(sheet, pane, 0, 99, 1), 98 * 99, 98, false, false);
        cutMakes("98 by manner 0", oneCut(sheet, pane, 0, 98, 0), 98, 99 * 98, false, true);
        cutMakes("98 by manner 1", oneCut(sheet, pane, 0, 98, 1), 98 * 99, 98, true, false);
    }

    private static void widthOfACutZero() {
        Due.about("the width of a cut 0");
        int[] sheet = {50, 40};
        int[] pane = {20, 15};
        cutMakes("manner 0", oneCut(sheet, pane, 0, 10, 0), 30 * 15, 50 * 25, true, true);
        cutMakes("manner 1", oneCut(sheet, pane, 0, 10, 1), 30 * 40, 20 * 25, true, true);
        GlassRacks x = oneCut(sheet, pane, 0, 10, 0);
        due("nothing would be lost", x.would(0, 0, 5), 0);
        x.cut(0, 0);
        due("nothing is lost", x.count(7), 0);
        int[] almost = {49, 39};
        cutMakes("sides of 1", oneCut(sheet, almost, 0, 10, 0), 39, 50, false, false);
    }

    private static void widthOfACutFive() {
        Due.about("the width of a cut 5");
        int[] sheet = {50, 40};
        int[] pane = {20, 15};
        cutMakes("manner 0", oneCut(sheet, pane, 5, 10, 0), 25 * 15, 50 * 20, true, true);
        cutMakes("manner 1", oneCut(sheet, pane, 5, 10, 1), 25 * 40, 20 * 20, true, true);
        int[] sides = {44, 45, 46, 49};
        for (int side : sides) {
            int[] wide = {side, 40};
            int beside = Math.max(0, 50 - side - 5) * 40;
            cutMakes("a pane of the width " + side, oneCut(sheet, wide, 5, 10, 0), beside, 0, false, false);
        }
    }

    private static void turnedPane() {
        Due.about("w and h of the pane (as it lies)");
        int[] sheet = {60, 25};
        int[] pane = {20, 30};
        for (int manner = 0; manner <= 1; manner++) {
            GlassRacks x = oneCut(sheet, pane, 2, 3, manner);
            due("turned", x.would(0, 0, 0), 1);
            int beside = 28 * (manner == 0 ? 20 : 25);
            int above = 3 * (manner == 0 ? 60 : 30);
            cutMakes("turned by manner " + manner, x, beside, above, true, true);
            due("beside, wide", x.sheet(1, 1), 28);
            due("above, high", x.sheet(2, 2), 3);
        }
    }

    private static void keptPiecesAreSheetsOfTheSameSort() {
        Due.about("it becomes a sheet of the same sort");
        for (int sort = 0; sort < 3; sort++) {
            GlassRacks x = new GlassRacks();
            x.buy(3, sort, 50, 50);
            x.order(sort, 20, 20, 0);
            due("cut", x.cut(0, 0), 2);
            for (int piece = 1; piece <= 2; piece++) {
                due("its sort", x.sheet(piece, 0), sort);
                due("its rack", x.sheet(piece, 3), 3);
                due("the sheet of which it is a piece", x.sheet(piece, 5), 0);
            }
            x.order(sort, 20, 20, 0);
            due("a piece of a piece", x.cut(1, 2), 1);
            due("the sheet of which that is a piece", x.sheet(3, 5), 2);
            due("which is gone", x.sheet(2, 5), GlassRacks.UNKNOWN);
        }
    }

    private static void thePieceBesideFirst() {
        Due.about("at the front of the rack of the sheet that was cut, the piece beside first");
        for (int sheet = 0; sheet < 4; sheet++) {
            GlassRacks x = Scenes.rackOf(4);
            x.buy(1, 0, 9, 9);
            x.order(0, 20, 20, 0);
            due("cut", x.cut(0, sheet), 2);
            due("the front one is the piece above", x.at(0, 0), 6);
            due("its height", x.sheet(6, 2), 29);
            due("its width", x.sheet(6, 1), 50);
            due("the next one is the piece beside", x.at(0, 1), 5);
            due("its height", x.sheet(5, 2), 20);
            due("its width", x.sheet(5, 1), 29);
            due("the next one is one that was before", x.at(0, 2), sheet == 3 ? 2 : 3);
            due("the other rack is as it was", x.at(1, 0), 4);
            due("the other rack is as it was", x.at(1, 1), NONE);
        }
    }

    private static void noRoomForAKeptPiece() {
        Due.about("kept, if there is room; all others are scrap");
        int beside = 29 * 20;
        int above = 50 * 29;
        for (int sheets = 6; sheets <= 8; sheets++) {
            for (int sheet = 0; sheet < sheets; sheet++) {
                GlassRacks x = Scenes.rackOf(sheets);
                x.order(0, 20, 20, 0);
                int pieces = sheets == 8 ? 1 : 2;
                due("cut from " + sheet + " of " + sheets, x.cut(0, sheet), pieces);
                due("scrap", x.count(5), sheets == 8 ? above : 0);
                due("area", x.count(2), 2500 * (sheets - 1) + beside + (sheets == 8 ? 0 : above));
                due("the front one", x.at(0, 0), sheets + pieces - 1);
                due("lost", x.count(7), 2500 - 400 - beside - above);
            }
        }
        GlassRacks x = Scenes.rackOf(8);
        for (int rack = 1; rack < 4; rack++) {
            x.buy(rack, 0, 60, 60);
        }
        x.order(0, 20, 20, 0);
        due("a full rack beside the one of the sheet takes no room", x.cut(0, 8), 2);
    }

    private static void noRoomNeededForScrap() {
        Due.about("a piece that is not kept takes no room from the other");
        GlassRacks x = Scenes.rackOf(7);
        x.buy(0, 0, 29, 50);
        x.order(0, 20, 20, 0);
        due("8 beside is too little", x.would(0, 7, 4), 8 * 20);
        due("the piece above has the room", x.cut(0, 7), 1);
        due("it is at the front", x.sheet(8, 4), 0);
        due("its height", x.sheet(8, 2), 29);
        due("scrap", x.count(5), 8 * 20);
        x = Scenes.rackOf(7);
        x.buy(0, 0, 21, 50);
        x.order(0, 20, 20, 0);
        due("no piece beside", x.would(0, 7, 1), 0);
        due("the piece above has the room", x.cut(0, 7), 1);
        due("scrap", x.count(5), 0);
    }

    private static void brokenSheetsMakeRoom() {
        Due.about("sheets that break while they are lifted make room for kept pieces");
        GlassRacks x = Scenes.rackOf(8);
        x.order(0, 20, 20, 0);
        x.set(3, 3);
        due("the third that is lifted breaks, not the fifth", x.cut(0, 3), 2);
        due("broken", x.count(6), 2500);
        due("scrap", x.count(5), 0);
        due("eight again", x.count(1), 8);
        due("one that is not broken is behind them", x.at(0, 2), 7);
        due("and one that was behind it", x.at(0, 4), 4);
    }

    private static void wouldIsWithRoomAndWhole() {
        Due.about("would: what a cut would make, if nothing broke and there was room");
        int[] want = {0, 29 * 20, 50 * 29, 29 * 20 + 50 * 29, 0, 2500 - 400 - 29 * 20 - 50 * 29, 8};
        GlassRacks x = Scenes.rackOf(8);
        x.order(0, 20, 20, 0);
        x.set(3, 1);
        for (int what = 0; what < 7; what++) {
            due("would " + what + " in a full rack of glass that breaks", x.would(0, 0, what), want[what]);
        }
        x = Scenes.sheetsEver(199);
        x.buy(0, 0, 50, 50);
        x.order(0, 20, 20, 0);
        for (int what = 0; what < 7; what++) {
            due("would " + what + " at 200 sheets", x.would(0, 199, what), what == 6 ? 1 : want[what]);
        }
    }

    private static void theAreaOfTheSheet() {
        Due.about("the area of the sheet is that of the pane, of kept and scrap pieces, and what is lost by cuts");
        int[] sides = {1, 2, 9, 10, 11, 12, 50, 98, 99};
        int[] panes = {1, 5, 9, 10, 11, 49, 98, 99};
        for (int settings = 0; settings < 12; settings++) {
            for (int w : sides) {
                for (int p : panes) {
                    int[] sheet = {w, 60};
                    int[] pane = {p, 45};
                    GlassRacks x = oneCut(sheet, pane, settings % 6, 10, settings / 6);
                    if (x.cut(0, 0) >= 0) {
                        due("all areas", x.count(2) + x.count(4) + x.count(5) + x.count(7), w * 60);
                        due("the pane", x.count(4), p * 45);
                        due("nothing less than 0", Math.min(Math.min(x.count(2), x.count(5)), x.count(7)) >= 0 ? 1 : 0, 1);
                    }
                }
            }
        }
    }

    private static void severalCutsAddUp() {
        Due.about("panes, scrap, what is broken and what is lost by cuts so far");
        GlassRacks x = new GlassRacks();
        // 8 times 20 beside and 29 times 9 above are scrap; 20 + 29 are lost.
        int[] sums = {400, 8 * 20 + 29 * 9, 20 + 29};
        for (int cuts = 1; cuts <= 4; cuts++) {
            x.buy(0, 0, 29, 30);
            x.order(0, 20, 20, 0);
            x.cut(cuts - 1, cuts - 1);
            due("panes of " + cuts, x.count(4), sums[0] * cuts);
            due("scrap of " + cuts, x.count(5), sums[1] * cuts);
            due("lost of " + cuts, x.count(7), sums[2] * cuts);
            due("bought", x.count(3), 29 * 30 * cuts);
            due("liftings", x.count(8), cuts);
        }
        x.buy(0, 0, 29, 30);
        x.scrap(4);
        due("scrap", x.count(5), sums[1] * 4 + 870);
        x.set(3, 1);
        for (int broken = 1; broken <= 3; broken++) {
            x.buy(0, 0, 29, 30);
            x.scrap(4 + broken);
            due("broken", x.count(6), 870 * broken);
        }
        due("scrap", x.count(5), sums[1] * 4 + 870);
        due("panes", x.count(4), 1600);
    }
}
