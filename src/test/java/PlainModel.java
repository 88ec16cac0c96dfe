import java.util.ArrayList;
import java.util.Comparator;
import java.util.List;
import java.util.regex.Matcher;
import java.util.regex.Pattern;

/**
 * The document once more, written in another way and with the Java library: the answers of GlassRacks
 * are compared with those of this model. A rack is a list whose first sheet is the front one, a history
 * is a list of copies, a fault of a text is found by a regular expression on its prefixes.
 */
final class PlainModel {
    private static final int UNKNOWN = -1;
    private static final int BAD_VALUE = -2;
    private static final int FULL = -3;
    private static final int NOT_POSSIBLE = -4;
    private static final int NONE = -5;

    private static final String SIDE = "[1-9][0-9]?";
    private static final String COMMAND = "(?:s[0-3]:[0-2]," + SIDE + "x" + SIDE
            + "|o[0-2]," + SIDE + "x" + SIDE + "@(?:0|[1-9][0-9]{0,2})|p[0-2]|d" + SIDE + ")";
    private static final Pattern TEXT = Pattern.compile(COMMAND + "(?:;" + COMMAND + ")*");

    record Sheet(int number, int sort, int width, int height, int parent) {
        int area() {
            return width * height;
        }
    }

    record Order(int number, int sort, int width, int height, int day, int status, int source, int cutDay) {
        int area() {
            return width * height;
        }

        boolean open() {
            return status == 0;
        }
    }

    /** What a cut makes, if nothing broke and there was room. */
    record Result(boolean turned, int[] beside, int[] above, int kept, int scrap, int lost) {
    }

    static final class State {
        int[] settings = {1, 10, 0, 0, 1};
        List<List<Sheet>> racks = new ArrayList<>();
        List<Order> orders = new ArrayList<>();
        int day;
        int sheetsEver;
        int bought;
        int panes;
        int scrap;
        int broken;
        int lost;
        int liftings;

        State() {
            for (int i = 0; i < 4; i++) {
                racks.add(new ArrayList<>());
            }
        }

        State copy() {
            State copy = new State();
            copy.settings = settings.clone();
            for (int i = 0; i < 4; i++) {
                copy.racks.get(i).addAll(racks.get(i));
            }
            copy.orders.addAll(orders);
            copy.day = day;
            copy.sheetsEver = sheetsEver;
            copy.bought = bought;
            copy.panes = panes;
            copy.scrap = scrap;
            copy.broken = broken;
            copy.lost = lost;
            copy.liftings = liftings;
            return copy;
        }

        Sheet find(int number) {
            return racks.stream().flatMap(List::stream).filter(s -> s.number() == number).findFirst().orElse(null);
        }

        int rackOf(Sheet sheet) {
            for (int i = 0; i < 4; i++) {
                if (racks.get(i).contains(sheet)) {
                    return i;
                }
            }
            throw new IllegalStateException("no rack");
        }

        int beforeOf(Sheet sheet) {
            return racks.get(rackOf(sheet)).indexOf(sheet);
        }

        Order orderOf(int number) {
            return number >= 0 && number < orders.size() ? orders.get(number) : null;
        }

        List<Order> openInTurn() {
            return orders.stream().filter(Order::open)
                    .sorted(Comparator.comparingInt(Order::day)
                            .thenComparing(Comparator.comparingInt(Order::area).reversed())
                            .thenComparingInt(Order::number))
                    .toList();
        }

        int late() {
            return (int) orders.stream().filter(this::isLate).count();
        }

        boolean isLate(Order order) {
            return order.status() == 1 ? order.cutDay() > order.day() : order.status() == 0 && day > order.day();
        }

        /** Lifts by hand: what was before the sheet and is whole goes back in its order. */
        boolean takeOut(Sheet sheet) {
            List<Sheet> rack = racks.get(rackOf(sheet));
            List<Sheet> hand = new ArrayList<>();
            boolean whole = true;
            Sheet lifted;
            do {
                lifted = rack.remove(0);
                liftings++;
                whole = settings[3] == 0 || liftings % settings[3] != 0;
                if (!whole) {
                    broken += lifted.area();
                } else if (lifted != sheet) {
                    hand.add(lifted);
                }
            } while (lifted != sheet);
            rack.addAll(0, hand);
            return whole;
        }

        Result result(Order order, Sheet sheet) {
            if (order.sort() != sheet.sort()) {
                return null;
            }
            int w = order.width();
            int h = order.height();
            boolean turned = false;
            if (w > sheet.width() || h > sheet.height()) {
                turned = true;
                w = order.height();
                h = order.width();
                if (settings[4] == 0 || w > sheet.width() || h > sheet.height()) {
                    return null;
                }
            }
            int c = settings[0];
            int[] beside = {sheet.width() - w - c, settings[2] == 0 ? h : sheet.height()};
            int[] above = {settings[2] == 0 ? sheet.width() : w, sheet.height() - h - c};
            int kept = 0;
            int scrap = 0;
            for (int[] piece : List.of(beside, above)) {
                if (keepable(piece)) {
                    kept += areaOf(piece);
                } else {
                    scrap += areaOf(piece);
                }
            }
            return new Result(turned, beside, above, kept, scrap, sheet.area() - order.area() - kept - scrap);
        }

        boolean keepable(int[] piece) {
            return piece[0] >= settings[1] && piece[1] >= settings[1];
        }

        static int areaOf(int[] piece) {
            return piece[0] <= 0 || piece[1] <= 0 ? 0 : piece[0] * piece[1];
        }

        int cut(Order order, Sheet sheet) {
            int rack = rackOf(sheet);
            if (!takeOut(sheet)) {
                return 10;
            }
            Result result = result(order, sheet);
            orders.set(order.number(), new Order(order.number(), order.sort(), order.width(), order.height(),
                    order.day(), 1, sheet.number(), day));
            panes += order.area();
            lost += result.lost();
            int kept = 0;
            for (int[] piece : List.of(result.beside(), result.above())) {
                if (keepable(piece) && racks.get(rack).size() < 8 && sheetsEver < 200) {
                    racks.get(rack).add(0, new Sheet(sheetsEver++, sheet.sort(), piece[0], piece[1], sheet.number()));
                    kept++;
                } else {
                    scrap += areaOf(piece);
                }
            }
            return kept;
        }

        Sheet chosen(Order order, int choice) {
            return racks.stream().flatMap(List::stream).filter(s -> result(order, s) != null)
                    .min(Comparator.comparingInt((Sheet s) -> switch (choice) {
                        case 0 -> s.area();
                        case 1 -> beforeOf(s);
                        default -> result(order, s).scrap();
                    }).thenComparingInt(Sheet::number)).orElse(null);
        }

        int plan(int choice) {
            if (choice < 0 || choice > 2) {
                return BAD_VALUE;
            }
            List<Order> turns = openInTurn();
            if (turns.isEmpty()) {
                return NONE;
            }
            int cuts = 0;
            for (Order order : turns) {
                Sheet sheet = chosen(order, choice);
                if (sheet != null && cut(order, sheet) != 10) {
                    cuts++;
                }
            }
            return cuts;
        }

        int buy(int rack, int sort, int width, int height) {
            if (rack < 0 || rack > 3 || sort < 0 || sort > 2) {
                return UNKNOWN;
            }
            if (width < 1 || width > 99 || height < 1 || height > 99) {
                return BAD_VALUE;
            }
            if (racks.get(rack).size() == 8 || sheetsEver == 200) {
                return FULL;
            }
            racks.get(rack).add(0, new Sheet(sheetsEver, sort, width, height, NONE));
            bought += width * height;
            return sheetsEver++;
        }

        int order(int sort, int width, int height, int byDay) {
            if (sort < 0 || sort > 2) {
                return UNKNOWN;
            }
            if (width < 1 || width > 99 || height < 1 || height > 99 || byDay < 0 || byDay > 999) {
                return BAD_VALUE;
            }
            if (orders.size() == 12) {
                return FULL;
            }
            orders.add(new Order(orders.size(), sort, width, height, byDay, 0, NONE, NONE));
            return orders.size() - 1;
        }

        int pass(int days) {
            if (days < 1 || days > 99) {
                return BAD_VALUE;
            }
            if (day + days > 999) {
                return FULL;
            }
            int from = day;
            day += days;
            return (int) orders.stream().filter(o -> o.open() && o.day() < day && o.day() >= from).count();
        }

        int command(String command) {
            String[] parts = command.substring(1).split("[:,x@]");
            int[] n = new int[parts.length];
            for (int i = 0; i < n.length; i++) {
                n[i] = Integer.parseInt(parts[i]);
            }
            return switch (command.charAt(0)) {
                case 's' -> buy(n[0], n[1], n[2], n[3]);
                case 'o' -> order(n[0], n[1], n[2], n[3]);
                case 'p' -> plan(n[0]);
                default -> pass(n[0]);
            };
        }
    }

    private State state = new State();
    private final List<State> history = new ArrayList<>();
    private State snapshot;
    private String text = "";

    /** Ends an act that worked on a copy: an error or NONE leaves the state as it was. */
    private int act(State after, int answer) {
        if (answer >= 0) {
            history.add(state);
            if (history.size() > 4) {
                history.remove(0);
            }
            state = after;
        }
        return answer;
    }

    int set(int what, int value) {
        int[] least = {0, 1, 0, 0, 0};
        int[] greatest = {5, 99, 1, 50, 1};
        if (what < 0 || what > 4 || value < least[what] || value > greatest[what]) {
            return BAD_VALUE;
        }
        State after = state.copy();
        after.settings[what] = value;
        return act(after, state.settings[what] == value ? NONE : state.settings[what]);
    }

    int buy(int rack, int sort, int width, int height) {
        State after = state.copy();
        return act(after, after.buy(rack, sort, width, height));
    }

    int move(int sheet, int rack) {
        State after = state.copy();
        Sheet found = after.find(sheet);
        if (found == null || rack < 0 || rack > 3) {
            return UNKNOWN;
        }
        if (after.rackOf(found) != rack && after.racks.get(rack).size() == 8) {
            return FULL;
        }
        int lifted = after.beforeOf(found) + 1;
        if (after.takeOut(found)) {
            after.racks.get(rack).add(0, found);
        }
        return act(after, lifted);
    }

    int scrap(int sheet) {
        State after = state.copy();
        Sheet found = after.find(sheet);
        if (found == null) {
            return UNKNOWN;
        }
        if (after.takeOut(found)) {
            after.scrap += found.area();
        }
        return act(after, found.area());
    }

    int order(int sort, int width, int height, int day) {
        State after = state.copy();
        return act(after, after.order(sort, width, height, day));
    }

    int cancel(int number) {
        Order o = state.orderOf(number);
        if (o == null) {
            return UNKNOWN;
        }
        if (!o.open()) {
            return NOT_POSSIBLE;
        }
        State after = state.copy();
        after.orders.set(number, new Order(number, o.sort(), o.width(), o.height(), o.day(), 2, NONE, NONE));
        return act(after, after.openInTurn().size());
    }

    int cut(int order, int sheet) {
        State after = state.copy();
        Order o = after.orderOf(order);
        Sheet s = after.find(sheet);
        if (o == null || s == null) {
            return UNKNOWN;
        }
        if (!o.open() || after.result(o, s) == null) {
            return NOT_POSSIBLE;
        }
        return act(after, after.cut(o, s));
    }

    int plan(int choice) {
        State after = state.copy();
        return act(after, after.plan(choice));
    }

    int pass(int days) {
        State after = state.copy();
        return act(after, after.pass(days));
    }

    int perform() {
        for (int end = 1; end <= text.length(); end++) {
            Matcher matcher = TEXT.matcher(text.substring(0, end));
            if (!matcher.matches() && !matcher.hitEnd()) {
                return -100 - (end - 1);
            }
        }
        if (!TEXT.matcher(text).matches()) {
            return -100 - text.length();
        }
        State after = state.copy();
        String[] commands = text.split(";");
        for (String command : commands) {
            int answer = after.command(command);
            if (answer < 0 && answer != NONE) {
                return answer;
            }
        }
        return act(after, commands.length);
    }

    int type(char character) {
        if (text.length() == 60) {
            return FULL;
        }
        text += character;
        return text.length();
    }

    int clearText() {
        int length = text.length();
        text = "";
        return length;
    }

    int undo() {
        if (history.isEmpty()) {
            return NONE;
        }
        state = history.remove(history.size() - 1);
        return history.size();
    }

    int keep() {
        snapshot = state.copy();
        return state.day;
    }

    int restore() {
        return snapshot == null ? NONE : act(snapshot.copy(), snapshot.day);
    }

    int sheet(int sheet, int what) {
        Sheet s = state.find(sheet);
        if (s == null) {
            return UNKNOWN;
        }
        return switch (what) {
            case 0 -> s.sort();
            case 1 -> s.width();
            case 2 -> s.height();
            case 3 -> state.rackOf(s);
            case 4 -> state.beforeOf(s);
            case 5 -> s.parent();
            default -> BAD_VALUE;
        };
    }

    int at(int rack, int place) {
        if (rack < 0 || rack > 3) {
            return UNKNOWN;
        }
        if (place < 0) {
            return BAD_VALUE;
        }
        List<Sheet> sheets = state.racks.get(rack);
        return place >= sheets.size() ? NONE : sheets.get(place).number();
    }

    int ordered(int order, int what) {
        Order o = state.orderOf(order);
        if (o == null) {
            return UNKNOWN;
        }
        return switch (what) {
            case 0 -> o.sort();
            case 1 -> o.width();
            case 2 -> o.height();
            case 3 -> o.day();
            case 4 -> o.status();
            case 5 -> o.source();
            case 6 -> o.cutDay();
            case 7 -> state.isLate(o) ? 1 : 0;
            default -> BAD_VALUE;
        };
    }

    int would(int order, int sheet, int what) {
        Order o = state.orderOf(order);
        Sheet s = state.find(sheet);
        if (o == null || s == null) {
            return UNKNOWN;
        }
        if (what < 0 || what > 6) {
            return BAD_VALUE;
        }
        Result result = state.result(o, s);
        if (result == null) {
            return NONE;
        }
        return switch (what) {
            case 0 -> result.turned() ? 1 : 0;
            case 1 -> State.areaOf(result.beside());
            case 2 -> State.areaOf(result.above());
            case 3 -> result.kept();
            case 4 -> result.scrap();
            case 5 -> result.lost();
            default -> state.beforeOf(s) + 1;
        };
    }

    int choice(int order, int choice) {
        Order o = state.orderOf(order);
        if (o == null) {
            return UNKNOWN;
        }
        if (choice < 0 || choice > 2) {
            return BAD_VALUE;
        }
        if (!o.open()) {
            return NOT_POSSIBLE;
        }
        Sheet s = state.chosen(o, choice);
        return s == null ? NONE : s.number();
    }

    int next(int rank) {
        if (rank < 0) {
            return BAD_VALUE;
        }
        List<Order> turns = state.openInTurn();
        return rank >= turns.size() ? NONE : turns.get(rank).number();
    }

    int wouldPlan(int choice, int what) {
        if (choice < 0 || choice > 2 || what < 0 || what > 3) {
            return BAD_VALUE;
        }
        State after = state.copy();
        int cuts = Math.max(0, after.plan(choice));
        return switch (what) {
            case 0 -> cuts;
            case 1 -> after.scrap - state.scrap;
            case 2 -> after.liftings - state.liftings;
            default -> after.broken - state.broken;
        };
    }

    int count(int what) {
        if (what >= 20 && what <= 24) {
            return state.settings[what - 20];
        }
        return switch (what) {
            case 0 -> state.day;
            case 1 -> state.racks.stream().mapToInt(List::size).sum();
            case 2 -> state.racks.stream().flatMap(List::stream).mapToInt(Sheet::area).sum();
            case 3 -> state.bought;
            case 4 -> state.panes;
            case 5 -> state.scrap;
            case 6 -> state.broken;
            case 7 -> state.lost;
            case 8 -> state.liftings;
            case 9 -> state.orders.size();
            case 10 -> state.openInTurn().size();
            case 11 -> state.late();
            case 12 -> state.sheetsEver;
            case 13 -> history.size();
            case 14 -> text.length();
            default -> BAD_VALUE;
        };
    }
}
