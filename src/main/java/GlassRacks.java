/**
 * A warehouse of replacement glass: sheets in racks, orders of panes, cuts, plans of a day,
 * commands read from a text, a history and a snapshot.
 */
public final class GlassRacks {
    public static final int UNKNOWN = -1;
    public static final int BAD_VALUE = -2;
    public static final int FULL = -3;
    public static final int NOT_POSSIBLE = -4;
    public static final int NONE = -5;

    private static final int RACKS = 4;
    private static final int RACK_ROOM = 8;
    private static final int SLOTS = RACKS * RACK_ROOM;
    private static final int SHEETS_EVER = 200;
    private static final int ORDERS_EVER = 12;
    private static final int SORTS = 3;
    private static final int CHOICES = 3;
    private static final int LONGEST_SIDE = 99;
    private static final int LONGEST_PASS = 99;
    private static final int LAST_DAY = 999;
    private static final int STATES_KEPT = 4;
    private static final int TEXT_ROOM = 60;
    private static final int SHEET_BROKE = 10;
    private static final int FAULT_AT_START = -100;

    private static final int OPEN = 0;
    private static final int CUT = 1;
    private static final int CANCELLED = 2;

    private static final int LEAST_AREA = 0;
    private static final int FEWEST_BEFORE = 1;

    private final State now = new State();
    private final State before = new State();
    private final State snapshot = new State();
    private boolean snapshotTaken = false;
    private final History history = new History();
    private final CommandText text = new CommandText();

    public GlassRacks() {
    }

    // ---- settings

    public int set(int what, int value) {
        before.copyFrom(now);
        return recorded(now.settings.change(what, value));
    }

    // ---- sheets

    public int buy(int rack, int sort, int width, int height) {
        before.copyFrom(now);
        return recorded(now.buySheet(rack, sort, width, height));
    }

    public int move(int sheet, int rack) {
        before.copyFrom(now);
        return recorded(now.moveSheet(sheet, rack));
    }

    public int scrap(int sheet) {
        before.copyFrom(now);
        return recorded(now.scrapSheet(sheet));
    }

    // ---- orders

    public int order(int sort, int width, int height, int day) {
        before.copyFrom(now);
        return recorded(now.takeOrder(sort, width, height, day));
    }

    public int cancel(int order) {
        before.copyFrom(now);
        return recorded(now.cancelOrder(order));
    }

    public int cut(int order, int sheet) {
        before.copyFrom(now);
        return recorded(now.cutOrder(order, sheet));
    }

    public int plan(int choice) {
        before.copyFrom(now);
        return recorded(now.planDay(choice));
    }

    public int pass(int days) {
        before.copyFrom(now);
        return recorded(now.passDays(days));
    }

    public int perform() {
        int commands = text.commandsOrFault();
        if (commands < 0) {
            return commands;
        }
        before.copyFrom(now);
        text.rewind();
        for (int turn = 0; turn < commands; turn++) {
            text.readCommand();
            int answer = runCommand();
            if (answer < 0 && answer != NONE) {
                now.copyFrom(before);
                return answer;
            }
        }
        return recorded(commands);
    }

    // ---- texts

    public int type(char character) {
        return text.append(character);
    }

    public int clearText() {
        return text.empty();
    }

    // ---- history

    public int undo() {
        return history.takeBack(now);
    }

    public int keep() {
        snapshot.copyFrom(now);
        snapshotTaken = true;
        return now.day;
    }

    public int restore() {
        if (!snapshotTaken) {
            return NONE;
        }
        before.copyFrom(now);
        now.copyFrom(snapshot);
        return recorded(now.day);
    }

    // ---- what is told

    public int sheet(int sheet, int what) {
        int slot = now.racks.slotOf(sheet);
        Sheet told = now.racks.inSlot(slot);
        if (told == null) {
            return UNKNOWN;
        }
        switch (what) {
            case 0: return told.sort;
            case 1: return told.width;
            case 2: return told.height;
            case 3: return slot / RACK_ROOM;
            case 4: return now.racks.sheetsBefore(slot);
            case 5: return told.source;
            default: return BAD_VALUE;
        }
    }

    public int at(int rack, int place) {
        if (!isRack(rack)) {
            return UNKNOWN;
        }
        if (place < 0) {
            return BAD_VALUE;
        }
        Sheet there = now.racks.atPlace(rack, place);
        return there == null ? NONE : there.number;
    }

    public int ordered(int order, int what) {
        Order told = now.orders.numbered(order);
        if (told == null) {
            return UNKNOWN;
        }
        switch (what) {
            case 0: return told.sort;
            case 1: return told.width;
            case 2: return told.height;
            case 3: return told.day;
            case 4: return told.status;
            case 5: return told.source;
            case 6: return told.cutDay;
            case 7: return told.isLate(now.day) ? 1 : 0;
            default: return BAD_VALUE;
        }
    }

    public int would(int order, int sheet, int what) {
        Order asked = now.orders.numbered(order);
        int slot = now.racks.slotOf(sheet);
        Sheet from = now.racks.inSlot(slot);
        if (asked == null || from == null) {
            return UNKNOWN;
        }
        if (what < 0 || what > 6) {
            return BAD_VALUE;
        }
        Cutting cutting = now.cutting;
        if (!cutting.layOut(asked, from, now.settings)) {
            return NONE;
        }
        switch (what) {
            case 0: return cutting.turned ? 1 : 0;
            case 1: return cutting.besideArea;
            case 2: return cutting.aboveArea;
            case 3: return cutting.keptArea;
            case 4: return cutting.scrapArea;
            case 5: return cutting.lostArea;
            default: return now.racks.sheetsBefore(slot) + 1;
        }
    }

    public int choice(int order, int choice) {
        Order asked = now.orders.numbered(order);
        if (asked == null) {
            return UNKNOWN;
        }
        if (!isChoice(choice)) {
            return BAD_VALUE;
        }
        if (!asked.isOpen()) {
            return NOT_POSSIBLE;
        }
        Sheet chosen = now.chosenSheet(asked, choice);
        return chosen == null ? NONE : chosen.number;
    }

    public int next(int rank) {
        if (rank < 0) {
            return BAD_VALUE;
        }
        Order ranked = now.orders.openAtRank(rank);
        return ranked == null ? NONE : ranked.number;
    }

    public int wouldPlan(int choice, int what) {
        if (!isChoice(choice) || what < 0 || what > 3) {
            return BAD_VALUE;
        }
        // Done on a copy, since what breaks and what is kept early in a plan decides what follows.
        State after = before;
        after.copyFrom(now);
        int answer = after.planDay(choice);
        switch (what) {
            case 0: return answer < 0 ? 0 : answer;
            case 1: return after.scrapArea - now.scrapArea;
            case 2: return after.liftings - now.liftings;
            default: return after.brokenArea - now.brokenArea;
        }
    }

    public int count(int what) {
        switch (what) {
            case 0: return now.day;
            case 1: return now.racks.sheetsThere();
            case 2: return now.racks.areaThere();
            case 3: return now.boughtArea;
            case 4: return now.paneArea;
            case 5: return now.scrapArea;
            case 6: return now.brokenArea;
            case 7: return now.lostArea;
            case 8: return now.liftings;
            case 9: return now.orders.taken;
            case 10: return now.orders.openOnes();
            case 11: return now.orders.lateOnes(now.day);
            case 12: return now.racks.sheetsMade;
            case 13: return history.recorded;
            case 14: return text.length;
            case 20:
            case 21:
            case 22:
            case 23:
            case 24: return now.settings.value(what - 20);
            default: return BAD_VALUE;
        }
    }

    // ---- helpers

    /** Records the state before an act that has been done; errors and NONE (all below 0) leave no trace. */
    private int recorded(int answer) {
        if (answer >= 0) {
            history.record(before);
        }
        return answer;
    }

    private int runCommand() {
        switch (text.command) {
            case 's': return now.buySheet(text.rack, text.sort, text.width, text.height);
            case 'o': return now.takeOrder(text.sort, text.width, text.height, text.day);
            case 'p': return now.planDay(text.choice);
            default: return now.passDays(text.days);
        }
    }

    private static boolean isRack(int rack) {
        return rack >= 0 && rack < RACKS;
    }

    private static boolean isSort(int sort) {
        return sort >= 0 && sort < SORTS;
    }

    private static boolean isChoice(int choice) {
        return choice >= 0 && choice < CHOICES;
    }

    private static boolean isSide(int side) {
        return side >= 1 && side <= LONGEST_SIDE;
    }

    /** The numbers that can be set. */
    private static final class Settings {
        int cutWidth = 1;
        int leastSide = 10;
        int manner = 0;
        int fragility = 0;
        int turning = 1;

        void copyFrom(Settings other) {
            cutWidth = other.cutWidth;
            leastSide = other.leastSide;
            manner = other.manner;
            fragility = other.fragility;
            turning = other.turning;
        }

        int change(int what, int value) {
            if (!isAllowed(what, value)) {
                return BAD_VALUE;
            }
            int previous = value(what);
            if (previous == value) {
                return NONE;
            }
            put(what, value);
            return previous;
        }

        int value(int what) {
            switch (what) {
                case 0: return cutWidth;
                case 1: return leastSide;
                case 2: return manner;
                case 3: return fragility;
                case 4: return turning;
                default: return BAD_VALUE;
            }
        }

        private void put(int what, int value) {
            switch (what) {
                case 0: cutWidth = value; break;
                case 1: leastSide = value; break;
                case 2: manner = value; break;
                case 3: fragility = value; break;
                case 4: turning = value; break;
                default: break;
            }
        }

        private static boolean isAllowed(int what, int value) {
            switch (what) {
                case 0: return value >= 0 && value <= 5;
                case 1: return isSide(value);
                case 2: return value == 0 || value == 1;
                case 3: return value >= 0 && value <= 50;
                case 4: return value == 0 || value == 1;
                default: return false;
            }
        }
    }

    /** A sheet; it never changes, so states share it. */
    private static final class Sheet {
        final int number;
        final int sort;
        final int width;
        final int height;
        /** The sheet of which it is a kept piece, NONE if it was bought. */
        final int source;

        Sheet(int number, int sort, int width, int height, int source) {
            this.number = number;
            this.sort = sort;
            this.width = width;
            this.height = height;
            this.source = source;
        }

        int area() {
            return width * height;
        }
    }

    /** The sheets in the racks. */
    private static final class Racks {
        /** Eight slots for each rack: its sheets without gaps, the rearmost one first, then nulls. */
        private final Sheet[] slots = new Sheet[SLOTS];
        int sheetsMade = 0;

        void copyFrom(Racks other) {
            sheetsMade = other.sheetsMade;
            for (int slot = 0; slot < slots.length; slot++) {
                slots[slot] = other.inSlot(slot);
            }
        }

        Sheet inSlot(int slot) {
            return slot >= 0 && slot < slots.length ? slots[slot] : null;
        }

        int slotOf(int number) {
            for (int slot = 0; slot < slots.length; slot++) {
                Sheet there = slots[slot];
                if (there != null && there.number == number) {
                    return slot;
                }
            }
            return NONE;
        }

        int filled(int rack) {
            int sheets = 0;
            for (int slot = 0; slot < slots.length; slot++) {
                if (slot / RACK_ROOM == rack && slots[slot] != null) {
                    sheets++;
                }
            }
            return sheets;
        }

        boolean isFull(int rack) {
            return filled(rack) >= RACK_ROOM;
        }

        /** Whether one more sheet can come to be in a rack. */
        boolean hasRoom(int rack) {
            return sheetsMade < SHEETS_EVER && filled(rack) < RACK_ROOM;
        }

        int sheetsBefore(int slot) {
            return filled(slot / RACK_ROOM) - 1 - slot % RACK_ROOM;
        }

        /** The sheet at a place counted from the front, or null. */
        Sheet atPlace(int rack, int place) {
            int sheets = filled(rack);
            return place < sheets ? inSlot(rack * RACK_ROOM + sheets - 1 - place) : null;
        }

        /** Makes a sheet at the front of a rack that has room, and tells its number. */
        int addNew(int rack, int sort, int width, int height, int source) {
            int number = sheetsMade;
            sheetsMade++;
            putInFront(new Sheet(number, sort, width, height, source), rack);
            return number;
        }

        void putInFront(Sheet sheet, int rack) {
            for (int slot = 0; slot < slots.length; slot++) {
                if (slot / RACK_ROOM == rack && slots[slot] == null) {
                    slots[slot] = sheet;
                    return;
                }
            }
        }

        /** Empties a slot; the sheets before it move up. */
        void removeFrom(int slot) {
            if (slot < 0) {
                return;
            }
            int last = slot - slot % RACK_ROOM + RACK_ROOM - 1;
            for (int place = slot; place <= last && place < slots.length; place++) {
                slots[place] = place < last && place + 1 < slots.length ? slots[place + 1] : null;
            }
        }

        int sheetsThere() {
            int sheets = 0;
            for (int slot = 0; slot < slots.length; slot++) {
                if (slots[slot] != null) {
                    sheets++;
                }
            }
            return sheets;
        }

        int areaThere() {
            int area = 0;
            for (int slot = 0; slot < slots.length; slot++) {
                Sheet there = slots[slot];
                if (there != null) {
                    area += there.area();
                }
            }
            return area;
        }
    }

    /** An order; it never changes after it is put among the orders, so states share it. */
    private static final class Order {
        final int number;
        final int sort;
        final int width;
        final int height;
        final int day;
        int status = OPEN;
        int source = NONE;
        int cutDay = NONE;

        Order(int number, int sort, int width, int height, int day) {
            this.number = number;
            this.sort = sort;
            this.width = width;
            this.height = height;
            this.day = day;
        }

        /** This order as it is when it has been cut. */
        Order asCut(int sheet, int today) {
            Order done = new Order(number, sort, width, height, day);
            done.status = CUT;
            done.source = sheet;
            done.cutDay = today;
            return done;
        }

        /** This order as it is when it has been cancelled. */
        Order asCancelled() {
            Order gone = new Order(number, sort, width, height, day);
            gone.status = CANCELLED;
            return gone;
        }

        int area() {
            return width * height;
        }

        boolean isOpen() {
            return status == OPEN;
        }

        boolean isLate(int today) {
            return status == CUT && cutDay > day || status == OPEN && today > day;
        }

        /** Whether a plan comes to this order earlier than to another one. */
        boolean goesBefore(Order other) {
            if (day != other.day) {
                return day < other.day;
            }
            if (area() != other.area()) {
                return area() > other.area();
            }
            return number < other.number;
        }
    }

    /** All orders ever, by their numbers. */
    private static final class Orders {
        private final Order[] list = new Order[ORDERS_EVER];
        int taken = 0;

        void copyFrom(Orders other) {
            taken = other.taken;
            for (int number = 0; number < list.length; number++) {
                list[number] = other.numbered(number);
            }
        }

        Order numbered(int number) {
            return number >= 0 && number < list.length ? list[number] : null;
        }

        boolean isFull() {
            return taken >= ORDERS_EVER;
        }

        int addNew(int sort, int width, int height, int day) {
            int number = taken;
            taken++;
            replace(new Order(number, sort, width, height, day));
            return number;
        }

        /** Puts an order in the place of the one with its number. */
        void replace(Order order) {
            if (order.number >= 0 && order.number < list.length) {
                list[order.number] = order;
            }
        }

        int openOnes() {
            int open = 0;
            for (int number = 0; number < list.length; number++) {
                Order order = list[number];
                if (order != null && order.isOpen()) {
                    open++;
                }
            }
            return open;
        }

        int lateOnes(int today) {
            int late = 0;
            for (int number = 0; number < list.length; number++) {
                Order order = list[number];
                if (order != null && order.isLate(today)) {
                    late++;
                }
            }
            return late;
        }

        /** The first open order that a plan comes to behind a given one (or at all, behind null); null if none. */
        Order nextOpen(Order last) {
            Order first = null;
            for (int number = 0; number < list.length; number++) {
                Order order = list[number];
                if (order != null && order.isOpen()
                        && (last == null || last.goesBefore(order))
                        && (first == null || order.goesBefore(first))) {
                    first = order;
                }
            }
            return first;
        }

        /** The open order at a rank (from 0) of a plan, or null. */
        Order openAtRank(int rank) {
            if (rank >= ORDERS_EVER) {
                return null;
            }
            Order ranked = nextOpen(null);
            for (int passed = 0; passed < rank && ranked != null; passed++) {
                ranked = nextOpen(ranked);
            }
            return ranked;
        }
    }

    /** How a pane lies on a sheet and what a cut makes; one object serves for all cuts of a state, to save room. */
    private static final class Cutting {
        boolean turned = false;
        int besideWidth = 0;
        int besideHeight = 0;
        int besideArea = 0;
        int aboveWidth = 0;
        int aboveHeight = 0;
        int aboveArea = 0;
        int keptArea = 0;
        int scrapArea = 0;
        int lostArea = 0;

        /** Fills this in for a cut; false (and nothing that counts is filled in) if the order cannot be cut from the sheet. */
        boolean layOut(Order order, Sheet sheet, Settings settings) {
            if (order.sort != sheet.sort) {
                return false;
            }
            boolean upright = order.width <= sheet.width && order.height <= sheet.height;
            if (!upright && (settings.turning == 0 || order.height > sheet.width || order.width > sheet.height)) {
                return false;
            }
            turned = !upright;
            splitSheet(upright ? order.width : order.height, upright ? order.height : order.width, sheet, settings);
            sumUp(sheet.area() - order.area(), settings.leastSide);
            return true;
        }

        private void splitSheet(int paneWidth, int paneHeight, Sheet sheet, Settings settings) {
            boolean aboveIsWide = settings.manner == 0;
            besideWidth = sheet.width - paneWidth - settings.cutWidth;
            besideHeight = aboveIsWide ? paneHeight : sheet.height;
            aboveWidth = aboveIsWide ? sheet.width : paneWidth;
            aboveHeight = sheet.height - paneHeight - settings.cutWidth;
        }

        private void sumUp(int areaBesidesPane, int leastSide) {
            besideArea = Math.max(besideWidth, 0) * besideHeight;
            aboveArea = aboveWidth * Math.max(aboveHeight, 0);
            keptArea = 0;
            if (besideWidth >= leastSide && besideHeight >= leastSide) {
                keptArea += besideArea;
            }
            if (aboveWidth >= leastSide && aboveHeight >= leastSide) {
                keptArea += aboveArea;
            }
            scrapArea = besideArea + aboveArea - keptArea;
            lostArea = areaBesidesPane - besideArea - aboveArea;
        }
    }

    /** A state: everything but the text, the history and the snapshot. */
    private static final class State {
        final Settings settings = new Settings();
        final Racks racks = new Racks();
        final Orders orders = new Orders();
        final Cutting cutting = new Cutting();
        int day = 0;
        int boughtArea = 0;
        int paneArea = 0;
        int scrapArea = 0;
        int brokenArea = 0;
        int lostArea = 0;
        int liftings = 0;

        void copyFrom(State other) {
            settings.copyFrom(other.settings);
            racks.copyFrom(other.racks);
            orders.copyFrom(other.orders);
            day = other.day;
            boughtArea = other.boughtArea;
            paneArea = other.paneArea;
            scrapArea = other.scrapArea;
            brokenArea = other.brokenArea;
            lostArea = other.lostArea;
            liftings = other.liftings;
        }

        int buySheet(int rack, int sort, int width, int height) {
            if (!isRack(rack) || !isSort(sort)) {
                return UNKNOWN;
            }
            if (!isSide(width) || !isSide(height)) {
                return BAD_VALUE;
            }
            if (!racks.hasRoom(rack)) {
                return FULL;
            }
            boughtArea += width * height;
            return racks.addNew(rack, sort, width, height, NONE);
        }

        int moveSheet(int number, int rack) {
            int slot = racks.slotOf(number);
            Sheet sheet = racks.inSlot(slot);
            if (sheet == null || !isRack(rack)) {
                return UNKNOWN;
            }
            if (slot / RACK_ROOM != rack && racks.isFull(rack)) {
                return FULL;
            }
            int lifted = racks.sheetsBefore(slot) + 1;
            if (takeOut(slot)) {
                racks.putInFront(sheet, rack);
            }
            return lifted;
        }

        int scrapSheet(int number) {
            int slot = racks.slotOf(number);
            Sheet sheet = racks.inSlot(slot);
            if (sheet == null) {
                return UNKNOWN;
            }
            if (takeOut(slot)) {
                scrapArea += sheet.area();
            }
            return sheet.area();
        }

        int takeOrder(int sort, int width, int height, int byDay) {
            if (!isSort(sort)) {
                return UNKNOWN;
            }
            if (!isSide(width) || !isSide(height) || byDay < 0 || byDay > LAST_DAY) {
                return BAD_VALUE;
            }
            if (orders.isFull()) {
                return FULL;
            }
            return orders.addNew(sort, width, height, byDay);
        }

        int cancelOrder(int number) {
            Order order = orders.numbered(number);
            if (order == null) {
                return UNKNOWN;
            }
            if (!order.isOpen()) {
                return NOT_POSSIBLE;
            }
            orders.replace(order.asCancelled());
            return orders.openOnes();
        }

        int cutOrder(int orderNumber, int sheetNumber) {
            Order order = orders.numbered(orderNumber);
            Sheet sheet = racks.inSlot(racks.slotOf(sheetNumber));
            if (order == null || sheet == null) {
                return UNKNOWN;
            }
            if (!order.isOpen() || !cutting.layOut(order, sheet, settings)) {
                return NOT_POSSIBLE;
            }
            return cutOpenOrder(order, sheet);
        }

        int planDay(int choice) {
            if (!isChoice(choice)) {
                return BAD_VALUE;
            }
            Order order = orders.nextOpen(null);
            if (order == null) {
                return NONE;
            }
            int cuts = 0;
            for (int turn = 0; turn < ORDERS_EVER && order != null; turn++) {
                Sheet sheet = chosenSheet(order, choice);
                if (sheet != null && cutOpenOrder(order, sheet) != SHEET_BROKE) {
                    cuts++;
                }
                order = orders.nextOpen(order);
            }
            return cuts;
        }

        int passDays(int days) {
            if (days < 1 || days > LONGEST_PASS) {
                return BAD_VALUE;
            }
            if (day + days > LAST_DAY) {
                return FULL;
            }
            int lateBefore = orders.lateOnes(day);
            day += days;
            return orders.lateOnes(day) - lateBefore;
        }

        /** The sheet that a plan takes for an order as things are, or null. */
        Sheet chosenSheet(Order order, int choice) {
            Sheet best = null;
            int least = 0;
            for (int slot = 0; slot < SLOTS; slot++) {
                Sheet sheet = racks.inSlot(slot);
                if (sheet != null && cutting.layOut(order, sheet, settings)) {
                    int measure = measureOf(sheet, slot, choice);
                    if (best == null || measure < least || measure == least && sheet.number < best.number) {
                        best = sheet;
                        least = measure;
                    }
                }
            }
            return best;
        }

        /** What a choice wants to be least, for a sheet on which the pane has just been laid out. */
        private int measureOf(Sheet sheet, int slot, int choice) {
            switch (choice) {
                case LEAST_AREA: return sheet.area();
                case FEWEST_BEFORE: return racks.sheetsBefore(slot);
                default: return cutting.scrapArea;
            }
        }

        /** Cuts an open order from a sheet from which it can be cut; tells how many pieces are kept, or SHEET_BROKE. */
        private int cutOpenOrder(Order order, Sheet sheet) {
            int slot = racks.slotOf(sheet.number);
            if (!takeOut(slot)) {
                return SHEET_BROKE;
            }
            cutting.layOut(order, sheet, settings);
            orders.replace(order.asCut(sheet.number, day));
            paneArea += order.area();
            lostArea += cutting.lostArea;
            int rack = slot / RACK_ROOM;
            int kept = keepOrScrap(cutting.besideWidth, cutting.besideHeight, sheet, rack);
            return kept + keepOrScrap(cutting.aboveWidth, cutting.aboveHeight, sheet, rack);
        }

        /** Keeps a piece (1) or makes scrap of it (0); a piece that is none is neither. */
        private int keepOrScrap(int width, int height, Sheet sheet, int rack) {
            if (width <= 0 || height <= 0) {
                return 0;
            }
            if (width >= settings.leastSide && height >= settings.leastSide && racks.hasRoom(rack)) {
                racks.addNew(rack, sheet.sort, width, height, sheet.number);
                return 1;
            }
            scrapArea += width * height;
            return 0;
        }

        /** Takes the sheet out of a slot; false if it breaks. */
        private boolean takeOut(int slot) {
            boolean whole = false;
            for (int place = racks.sheetsBefore(slot); place >= 0; place--) {
                liftings++;
                whole = settings.fragility <= 0 || liftings % settings.fragility != 0;
                if (!whole) {
                    breakSheet(slot + place);
                }
            }
            // The last one lifted was the sheet itself.
            if (whole) {
                racks.removeFrom(slot);
            }
            return whole;
        }

        private void breakSheet(int slot) {
            Sheet sheet = racks.inSlot(slot);
            if (sheet != null) {
                brokenArea += sheet.area();
                racks.removeFrom(slot);
            }
        }
    }

    /** The states before the latest acts, the oldest one first. */
    private static final class History {
        private final State[] states = new State[STATES_KEPT];
        int recorded = 0;

        History() {
            for (int index = 0; index < states.length; index++) {
                states[index] = new State();
            }
        }

        void record(State state) {
            if (recorded >= states.length) {
                dropOldest();
            }
            State free = stateAt(recorded);
            if (free != null) {
                free.copyFrom(state);
                recorded++;
            }
        }

        /** Removes the latest state, copies it to where it is wanted, and tells how many are left. */
        int takeBack(State wanted) {
            State latest = stateAt(recorded - 1);
            if (latest == null) {
                return NONE;
            }
            recorded--;
            wanted.copyFrom(latest);
            return recorded;
        }

        private State stateAt(int index) {
            return index >= 0 && index < states.length ? states[index] : null;
        }

        /** The object of the oldest state becomes the free one at the end, so that no new one is made. */
        private void dropOldest() {
            State oldest = stateAt(0);
            for (int index = 0; index < states.length; index++) {
                states[index] = index + 1 < states.length ? states[index + 1] : oldest;
            }
            recorded--;
        }
    }

    /** The text, and the command of it that was read last. */
    private static final class CommandText {
        private final char[] characters = new char[TEXT_ROOM];
        int length = 0;
        private int position = 0;
        private boolean faulty = false;
        int command = 0;
        int rack = 0;
        int sort = 0;
        int width = 0;
        int height = 0;
        int day = 0;
        int choice = 0;
        int days = 0;

        int append(char character) {
            if (length < 0 || length >= characters.length) {
                return FULL;
            }
            characters[length] = character;
            length++;
            return length;
        }

        int empty() {
            int had = length;
            length = 0;
            return had;
        }

        /** How many commands the text has, or -100 minus its fault. */
        int commandsOrFault() {
            rewind();
            for (int commands = 1; commands <= TEXT_ROOM; commands++) {
                readCommand();
                if (faulty) {
                    break;
                }
                if (position >= length) {
                    return commands;
                }
            }
            return FAULT_AT_START - position;
        }

        void rewind() {
            position = 0;
            faulty = false;
        }

        /** Reads the next command, with the ";" before it; a fault leaves the position where it is. */
        void readCommand() {
            if (position > 0) {
                expect(';');
            }
            command = here();
            switch (command) {
                case 's': readPurchase(); break;
                case 'o': readOrder(); break;
                case 'p': choice = numberBehind('p', 0, CHOICES - 1); break;
                case 'd': days = numberBehind('d', 1, LONGEST_PASS); break;
                default: faulty = true; break;
            }
        }

        private void readPurchase() {
            rack = numberBehind('s', 0, RACKS - 1);
            sort = numberBehind(':', 0, SORTS - 1);
            width = numberBehind(',', 1, LONGEST_SIDE);
            height = numberBehind('x', 1, LONGEST_SIDE);
        }

        private void readOrder() {
            sort = numberBehind('o', 0, SORTS - 1);
            width = numberBehind(',', 1, LONGEST_SIDE);
            height = numberBehind('x', 1, LONGEST_SIDE);
            day = numberBehind('@', 0, LAST_DAY);
        }

        /** Reads a sign and the number behind it. */
        private int numberBehind(int sign, int least, int greatest) {
            expect(sign);
            int number = digitHere();
            if (faulty || number < least || number > greatest) {
                faulty = true;
                return least;
            }
            position++;
            // A digit that would lead too far is left to be refused as what follows the number.
            for (int digits = 1; digits < TEXT_ROOM && number > 0; digits++) {
                int digit = digitHere();
                if (digit < 0 || number * 10 + digit > greatest) {
                    break;
                }
                number = number * 10 + digit;
                position++;
            }
            return number;
        }

        private void expect(int sign) {
            if (faulty || here() != sign) {
                faulty = true;
            } else {
                position++;
            }
        }

        private int digitHere() {
            int sign = here();
            return sign >= '0' && sign <= '9' ? sign - '0' : -1;
        }

        /** The character at the position, or -1 at the end. */
        private int here() {
            return position >= 0 && position < length && position < characters.length ? characters[position] : -1;
        }
    }
}
