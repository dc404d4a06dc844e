import java.util.ArrayDeque;
import java.util.ArrayList;
import java.util.Comparator;
import java.util.Deque;
import java.util.List;
import java.util.NoSuchElementException;
import java.util.regex.Matcher;
import java.util.regex.Pattern;
import java.util.stream.Collectors;

/**
 * The document once more, written in another way and with the Java library, so that runs of calls can be compared.
 * States are copied whole, texts are found by a regular expression, the order of thirst by a comparator.
 */
final class Model {
    private static final String ORDER = "(?:[os][0-9]:[0-9]{1,3}-[0-9]{1,3}|[hi][0-9]{1,3}|c[0-9]{1,2}>[0-9]{1,2}|r[0-9])";
    private static final Pattern TEXT = Pattern.compile(ORDER + "(?:;" + ORDER + ")*");

    private State now = new State();
    private State saved;
    private final Deque<State> undos = new ArrayDeque<>();
    private String input = "";
    private int error = -1;
    private int reason;
    private int detail;

    private static final class Plot {
        int gate;
        int beds;
        int shares;
        int coins;
        int thirst;
        boolean thief;
        int drank;
        int stole;
        int theft = -1;

        Plot copy() {
            Plot plot = new Plot();
            plot.gate = gate;
            plot.beds = beds;
            plot.shares = shares;
            plot.coins = coins;
            plot.thirst = thirst;
            plot.thief = thief;
            plot.drank = drank;
            plot.stole = stole;
            plot.theft = theft;
            return plot;
        }
    }

    private static final class Sluice {
        int width;
        int leak = 5;
        boolean[] hours = new boolean[168];
        int took;
        int back;

        Sluice copy() {
            Sluice sluice = new Sluice();
            sluice.width = width;
            sluice.leak = leak;
            sluice.hours = hours.clone();
            sluice.took = took;
            sluice.back = back;
            return sluice;
        }

        int openHours() {
            int count = 0;
            for (boolean hour : hours) {
                count += hour ? 1 : 0;
            }
            return count;
        }
    }

    private static final class State {
        List<Sluice> gates = new ArrayList<>();
        List<Plot> plots = new ArrayList<>();
        List<int[]> complaints = new ArrayList<>();
        int hour;
        int inflow = 10;
        int fine = 5;
        int chest;
        int in;
        int leaked;
        int drunk;
        int stolen;
        int off;
        int heard;
        int guilty;
        int repairs;

        State copy() {
            State state = new State();
            gates.forEach(gate -> state.gates.add(gate.copy()));
            plots.forEach(plot -> state.plots.add(plot.copy()));
            complaints.forEach(complaint -> state.complaints.add(complaint.clone()));
            state.hour = hour;
            state.inflow = inflow;
            state.fine = fine;
            state.chest = chest;
            state.in = in;
            state.leaked = leaked;
            state.drunk = drunk;
            state.stolen = stolen;
            state.off = off;
            state.heard = heard;
            state.guilty = guilty;
            state.repairs = repairs;
            return state;
        }

        List<Plot> inOrder(int gate) {
            return plots.stream().filter(plot -> plot.gate == gate)
                    .sorted(Comparator.comparingInt((Plot plot) -> -plot.thirst).thenComparingInt(plot -> -plot.shares))
                    .collect(Collectors.toList());
        }

        List<Plot> payers(int stretch) {
            return plots.stream().filter(plot -> plot.gate >= stretch).collect(Collectors.toList());
        }

        int part(Plot plot, int stretch) {
            int all = payers(stretch).stream().mapToInt(payer -> payer.shares).sum();
            return plot.gate < stretch ? 0 : (int) Math.ceil(2.0 * gates.get(stretch).leak * plot.shares / all);
        }

        void pass() {
            int clock = hour % 24;
            if (clock >= 6) {
                plots.forEach(plot -> plot.thirst = Math.min(99, plot.thirst + plot.beds));
            }
            in += inflow;
            int water = inflow;
            for (int i = 0; i < gates.size(); i++) {
                Sluice gate = gates.get(i);
                int lost = (int) Math.ceil(water * gate.leak / 100.0);
                leaked += lost;
                water -= lost;
                int taken = gate.hours[hour % 168] ? Math.min(water, gate.width) : 0;
                int left = taken;
                for (Plot plot : inOrder(i)) {
                    int drink = Math.min(left, Math.min(plot.thirst, 3 * plot.beds));
                    plot.thirst -= drink;
                    plot.drank += drink;
                    drunk += drink;
                    left -= drink;
                }
                gate.took += taken;
                gate.back += left;
                water = water - taken + left;
            }
            for (Plot plot : plots) {
                int drink = clock < 6 && plot.thief ? Math.min(water, Math.min(plot.thirst, 3 * plot.beds)) : 0;
                if (drink > 0) {
                    plot.theft = hour;
                }
                plot.thirst -= drink;
                plot.stole += drink;
                stolen += drink;
                water -= drink;
            }
            off += water;
            if (hour / 24 % 7 == 3 && clock == 12) {
                hear();
            }
            if (hour % 168 == 167) {
                gates.forEach(gate -> gate.leak = Math.min(50, gate.leak + 1));
            }
            hour++;
        }

        void hear() {
            for (int[] complaint : complaints) {
                Plot one = plots.get(complaint[0]);
                Plot other = plots.get(complaint[1]);
                heard++;
                if (other.theft >= 0 && hour - other.theft <= 168) {
                    int paid = Math.min(fine, other.coins);
                    other.coins -= paid;
                    one.coins += paid / 2;
                    chest += paid - paid / 2;
                    other.thief = false;
                    guilty++;
                } else if (one.coins > 0) {
                    one.coins--;
                    chest++;
                }
            }
            complaints.clear();
        }
    }

    private void changed() {
        undos.push(now.copy());
        while (undos.size() > 8) {
            undos.removeLast();
        }
    }

    private UnsupportedOperationException refused(int newReason, int newDetail) {
        reason = newReason;
        detail = newDetail;
        return new UnsupportedOperationException();
    }

    private static void range(int number, int least, int most) {
        if (number < least || number > most) {
            throw new IllegalArgumentException();
        }
    }

    private Sluice gateAt(int gate) {
        if (gate < 0 || gate >= now.gates.size()) {
            throw new IndexOutOfBoundsException();
        }
        return now.gates.get(gate);
    }

    private Plot plotAt(int plot) {
        if (plot < 0 || plot >= now.plots.size()) {
            throw new IndexOutOfBoundsException();
        }
        return now.plots.get(plot);
    }

    /** The answer as Script.answer tells it; the numbers of a call are in its row, true as 1. */
    String answer(String name, int[] row) {
        try {
            return call(name, row);
        } catch (RuntimeException e) {
            return "throws " + e.getClass().getSimpleName();
        }
    }

    private String call(String name, int[] row) {
        switch (name) {
            case "complaint":
                if (row[0] < 0 || row[0] >= now.complaints.size()) {
                    throw new NoSuchElementException();
                }
                return "" + now.complaints.get(row[0])[row[1]];
            case "thief":
                boolean was = plotAt(row[0]).thief;
                changed();
                plotAt(row[0]).thief = row[1] == 1;
                return "" + was;
            case "sign":
                int thirst = plotAt(row[0]).thirst;
                return thirst >= 60 ? "d" : thirst > 0 ? "t" : "w";
            case "isWell":
                return "true";
            case "share":
                if (now.in == 0) {
                    throw new ArithmeticException();
                }
                return "" + (float) now.drunk / (float) now.in;
            case "meanThirst":
                if (now.plots.isEmpty()) {
                    throw new ArithmeticException();
                }
                return "" + (double) account(16) / (double) now.plots.size();
            default:
                return "" + (isLook(name) ? look(name, row) : change(name, row));
        }
    }

    private static boolean isLook(String name) {
        return List.of("gateOf", "nextOpen", "gardenOf", "thirsty", "placeAgain", "part", "ahead", "dryIn", "bestHour",
                "account").contains(name);
    }

    private int change(String name, int[] row) {
        int before;
        switch (name) {
            case "inflow":
                range(row[0], 0, 200);
                changed();
                before = now.inflow;
                now.inflow = row[0];
                return before;
            case "fine":
                range(row[0], 1, 30);
                changed();
                before = now.fine;
                now.fine = row[0];
                return before;
            case "gate":
                return gate(row[0]);
            case "garden":
                return garden(row);
            case "open":
                gateAt(row[0]);
                range(row[1], 0, 167);
                range(row[2], row[1], 167);
                changed();
                for (int i = row[1]; i <= row[2]; i++) {
                    gateAt(row[0]).hours[i] = row[3] == 1;
                }
                return gateAt(row[0]).openHours();
            case "pay":
                plotAt(row[0]);
                range(row[1], 1, 99);
                changed();
                return plotAt(row[0]).coins += row[1];
            case "complain":
                return complain(row[0], row[1]);
            case "repair":
                return repair(row[0]);
            case "pass":
                range(row[0], 1, 200);
                changed();
                return pass(now, row[0]);
            default:
                return text(name, row);
        }
    }

    private static int pass(State state, int hours) {
        int before = state.drunk;
        for (int i = 0; i < hours; i++) {
            state.pass();
        }
        return state.drunk - before;
    }

    private int gate(int width) {
        range(width, 1, 60);
        if (now.gates.size() == 6) {
            throw refused(1, 6);
        }
        changed();
        Sluice gate = new Sluice();
        gate.width = width;
        now.gates.add(gate);
        return now.gates.size() - 1;
    }

    private int garden(int[] row) {
        gateAt(row[0]);
        range(row[1], 1, 20);
        range(row[2], 1, 9);
        range(row[3], 0, 99);
        if (now.plots.size() == 12) {
            throw refused(1, 12);
        }
        changed();
        Plot plot = new Plot();
        plot.gate = row[0];
        plot.beds = row[1];
        plot.shares = row[2];
        plot.coins = row[3];
        now.plots.add(plot);
        return now.plots.size() - 1;
    }

    private int complain(int garden, int other) {
        plotAt(garden);
        plotAt(other);
        range(garden == other ? 1 : 0, 0, 0);
        for (int i = 0; i < now.complaints.size(); i++) {
            if (now.complaints.get(i)[0] == garden && now.complaints.get(i)[1] == other) {
                throw refused(2, i);
            }
        }
        if (now.complaints.size() == 8) {
            throw refused(1, 8);
        }
        changed();
        now.complaints.add(new int[] {garden, other});
        return now.complaints.size();
    }

    private int repair(int stretch) {
        int cost = 2 * gateAt(stretch).leak;
        if (cost == 0) {
            throw refused(3, stretch);
        }
        List<Plot> payers = now.payers(stretch);
        if (payers.isEmpty()) {
            throw refused(4, stretch);
        }
        int paid = 0;
        for (Plot payer : payers) {
            paid += Math.min(payer.coins, now.part(payer, stretch));
        }
        if (now.chest + paid < cost) {
            throw refused(5, cost - paid - now.chest);
        }
        changed();
        for (Plot payer : now.payers(stretch)) {
            payer.coins -= Math.min(payer.coins, now.part(payer, stretch));
        }
        now.chest += paid - cost;
        gateAt(stretch).leak = 0;
        now.repairs++;
        return now.chest;
    }

    private int look(String name, int[] row) {
        switch (name) {
            case "gateOf":
                return gateOf(gateAt(row[0]), row[0], row[1]);
            case "nextOpen":
                return nextOpen(gateAt(row[0]));
            case "gardenOf":
                return gardenOf(plotAt(row[0]), row[1]);
            case "thirsty":
                gateAt(row[0]);
                List<Plot> order = now.inOrder(row[0]);
                if (row[1] < 0 || row[1] >= order.size()) {
                    throw new NoSuchElementException();
                }
                return now.plots.indexOf(order.get(row[1]));
            case "placeAgain":
                return now.inOrder(plotAt(row[0]).gate).indexOf(plotAt(row[0]));
            case "part":
                gateAt(row[1]);
                return now.part(plotAt(row[0]), row[1]);
            case "ahead":
                gateAt(row[0]);
                range(row[1], 1, 200);
                return taken(now.copy(), row[0], row[1]);
            case "dryIn":
                return dryIn();
            case "bestHour":
                return bestHour(gateAt(row[0]), row[0]);
            default:
                return account(row[0]);
        }
    }

    private int gateOf(Sluice gate, int number, int what) {
        range(what, 0, 6);
        int isOpen = gate.hours[now.hour % 168] ? 1 : 0;
        int gardens = now.inOrder(number).size();
        return new int[] {gate.width, gate.leak, isOpen, gate.openHours(), gardens, gate.took, gate.back}[what];
    }

    private int nextOpen(Sluice gate) {
        range(gate.openHours() == 0 ? 1 : 0, 0, 1);
        for (int hour = now.hour; gate.openHours() > 0; hour++) {
            if (gate.hours[hour % 168]) {
                return hour;
            }
        }
        throw new NoSuchElementException();
    }

    private static int gardenOf(Plot plot, int what) {
        range(what, 0, 8);
        return new int[] {plot.gate, plot.beds, plot.shares, plot.coins, plot.thirst, plot.thief ? 1 : 0, plot.drank,
            plot.stole, plot.theft}[what];
    }

    private static int taken(State state, int gate, int hours) {
        int before = state.gates.get(gate).took;
        pass(state, hours);
        return state.gates.get(gate).took - before;
    }

    private int dryIn() {
        State state = now.copy();
        for (int hours = 0; hours <= 200; hours++) {
            if (state.plots.stream().anyMatch(plot -> plot.thirst == 99)) {
                return hours;
            }
            state.pass();
        }
        throw new NoSuchElementException();
    }

    private int bestHour(Sluice gate, int number) {
        int[] takes = new int[24];
        int most = -1;
        for (int i = 0; i < 24; i++) {
            State state = now.copy();
            boolean isShut = !gate.hours[(now.hour + i) % 168];
            state.gates.get(number).hours[(now.hour + i) % 168] = true;
            takes[i] = isShut ? taken(state, number, 24) : -2;
            most = Math.max(most, takes[i]);
        }
        for (int i = 0; i < 24; i++) {
            if (takes[i] == most) {
                return now.hour + i;
            }
        }
        throw new NoSuchElementException();
    }

    private int account(int what) {
        range(what, 0, 18);
        return new int[] {now.hour, now.inflow, now.fine, now.gates.size(), now.plots.size(), now.complaints.size(),
            now.chest, now.plots.stream().mapToInt(plot -> plot.coins).sum(), now.in, now.leaked, now.drunk, now.stolen,
            now.off, now.heard, now.guilty, now.repairs, now.plots.stream().mapToInt(plot -> plot.thirst).sum(),
            input.length(), undos.size()}[what];
    }

    private int text(String name, int[] row) {
        switch (name) {
            case "append":
                if (input.length() == 60) {
                    throw new IllegalStateException();
                }
                input += (char) row[0];
                return input.length();
            case "read":
                String text = input;
                input = "";
                return read(text);
            case "errorPosition":
                return error;
            case "refusal":
                if (reason == 0) {
                    throw new NoSuchElementException();
                }
                return row[0] == 1 ? detail : reason;
            case "undo":
                if (undos.isEmpty()) {
                    throw new IllegalStateException();
                }
                now = undos.pop();
                return undos.size();
            case "save":
                saved = now.copy();
                return now.plots.size();
            case "restore":
                if (saved == null) {
                    throw new IllegalStateException();
                }
                now = saved.copy();
                undos.clear();
                return now.plots.size();
            default:
                throw new IllegalStateException("no such call: " + name);
        }
    }

    /** The error is behind the longest beginning that some text has as well. */
    private static int errorOf(String text) {
        if (TEXT.matcher(text).matches()) {
            return -1;
        }
        for (int end = text.length(); end > 0; end--) {
            Matcher matcher = TEXT.matcher(text.substring(0, end));
            if (matcher.matches() || matcher.hitEnd()) {
                return end;
            }
        }
        return 0;
    }

    private int read(String text) {
        error = errorOf(text);
        if (error >= 0) {
            throw new IllegalArgumentException();
        }
        State before = now.copy();
        List<State> undosBefore = new ArrayList<>(undos);
        String[] orders = text.split(";");
        RuntimeException thrown = null;
        try {
            for (String order : orders) {
                carryOut(order);
            }
        } catch (UnsupportedOperationException e) {
            thrown = e;
        } catch (RuntimeException e) {
            thrown = new IllegalArgumentException();
        }
        State after = now;
        now = before;
        undos.clear();
        undos.addAll(undosBefore);
        if (thrown != null) {
            throw thrown;
        }
        changed();
        now = after;
        return orders.length;
    }

    private void carryOut(String order) {
        String[] words = order.substring(1).split("[:>-]");
        int[] row = new int[4];
        for (int i = 0; i < words.length; i++) {
            row[i] = Integer.parseInt(words[i]);
        }
        row[3] = order.charAt(0) == 'o' ? 1 : 0;
        String[] names = {"open", "open", "pass", "inflow", "complain", "repair"};
        change(names["oshicr".indexOf(order.charAt(0))], row);
    }
}
