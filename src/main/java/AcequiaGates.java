import java.util.NoSuchElementException;

/** A ditch of a town in the mountains, with gates, gardens, thieves and complaints; see README.md. */
public final class AcequiaGates {
    private static final int HOURS_OF_DAY = 24;
    private static final int DAYS_OF_WEEK = 7;
    private static final int HOURS_OF_WEEK = 168;
    private static final int NIGHT_HOURS = 6;
    /** The hour 12 of the day 3. */
    private static final int HEARING_HOUR = 84;

    private static final int MOST_GATES = 6;
    private static final int MOST_GARDENS = 12;
    private static final int MOST_COMPLAINTS = 8;
    private static final int MOST_CHANGES = 8;
    private static final int MOST_SIGNS = 60;
    /** The shortest order has two signs, and a semicolon stands behind each but the last one. */
    private static final int MOST_ORDERS = 20;

    private static final int MOST_INFLOW = 200;
    private static final int MOST_FINE = 30;
    private static final int MOST_WIDTH = 60;
    private static final int MOST_LEAK = 50;
    private static final int MOST_BEDS = 20;
    private static final int MOST_SHARES = 9;
    private static final int MOST_COINS = 99;
    private static final int MOST_THIRST = 99;
    private static final int MOST_HOURS = 200;
    private static final int DRY_THIRST = 60;
    private static final int DRINK_OF_A_BED = 3;
    private static final int FIRST_INFLOW = 10;
    private static final int FIRST_FINE = 5;
    private static final int FIRST_LEAK = 5;

    private static final int LAST_OF_GATE = 6;
    private static final int LAST_OF_GARDEN = 8;
    private static final int LAST_ACCOUNT = 18;
    private static final int ACCOUNT_OF_INPUT = 17;
    private static final int ACCOUNT_OF_CHANGES = 18;

    private static final int REASON_FULL = 1;
    private static final int REASON_WAITS = 2;
    private static final int REASON_NO_LEAK = 3;
    private static final int REASON_NO_GARDEN = 4;
    private static final int REASON_TOO_FEW_COINS = 5;

    private static final int DONE = 0;
    private static final int WRONG = 1;
    private static final int REFUSED = 2;

    private static final int NONE = -1;

    private final Ditch ditch;
    /** Where things are tried: what comes ahead, and texts of which nothing may stay if an order fails. */
    private final Ditch trial;
    private final Ditch snapshot;
    private boolean hasSnapshot;
    private final History history;
    private final Text text;
    private final Refusal refused;
    private int errorOffset;

    public AcequiaGates() {
        ditch = new Ditch();
        trial = new Ditch();
        snapshot = new Ditch();
        history = new History();
        text = new Text();
        refused = new Refusal();
        errorOffset = NONE;
    }

    // Ditch, gates and gardens

    public int inflow(int water) throws IllegalArgumentException {
        if (!isInflow(water)) {
            throw new IllegalArgumentException("the inflow is from 0 to 200");
        }
        history.keep(ditch);
        int before = ditch.inflow;
        ditch.inflow = water;
        return before;
    }

    public int fine(int fine) throws IllegalArgumentException {
        if (!isWithin(fine, 1, MOST_FINE)) {
            throw new IllegalArgumentException("the fine is from 1 to 30");
        }
        history.keep(ditch);
        int before = ditch.fine;
        ditch.fine = fine;
        return before;
    }

    public int gate(int width) throws IllegalArgumentException, UnsupportedOperationException {
        if (!isWithin(width, 1, MOST_WIDTH)) {
            throw new IllegalArgumentException("a width is from 1 to 60");
        }
        if (ditch.gateCount >= MOST_GATES) {
            refused.note(REASON_FULL, MOST_GATES);
            throw new UnsupportedOperationException("there are 6 gates");
        }
        history.keep(ditch);
        return ditch.addGate(width);
    }

    public int garden(int gate, int beds, int shares, int coins)
            throws IndexOutOfBoundsException, IllegalArgumentException, UnsupportedOperationException {
        if (!ditch.hasGate(gate)) {
            throw new IndexOutOfBoundsException("no such gate");
        }
        if (!isWithin(beds, 1, MOST_BEDS) || !isWithin(shares, 1, MOST_SHARES) || !isWithin(coins, 0, MOST_COINS)) {
            throw new IllegalArgumentException("beds are 1 to 20, shares 1 to 9, coins 0 to 99");
        }
        if (ditch.gardenCount >= MOST_GARDENS) {
            refused.note(REASON_FULL, MOST_GARDENS);
            throw new UnsupportedOperationException("there are 12 gardens");
        }
        history.keep(ditch);
        return ditch.addGarden(gate, beds, shares, coins);
    }

    public int open(int gate, int from, int to, boolean isOpen)
            throws IndexOutOfBoundsException, IllegalArgumentException {
        if (!ditch.hasGate(gate)) {
            throw new IndexOutOfBoundsException("no such gate");
        }
        if (!areHoursOfWeek(from, to)) {
            throw new IllegalArgumentException("hours of the week are 0 to 167, the last not less than the first");
        }
        history.keep(ditch);
        ditch.gates[gate].setHours(from, to, isOpen);
        return ditch.gates[gate].countOpenHours();
    }

    public int pay(int garden, int coins) throws IndexOutOfBoundsException, IllegalArgumentException {
        if (!ditch.hasGarden(garden)) {
            throw new IndexOutOfBoundsException("no such garden");
        }
        if (!isWithin(coins, 1, MOST_COINS)) {
            throw new IllegalArgumentException("coins are 1 to 99");
        }
        history.keep(ditch);
        ditch.gardens[garden].coins += coins;
        return ditch.gardens[garden].coins;
    }

    public boolean thief(int garden, boolean isThief) throws IndexOutOfBoundsException {
        if (!ditch.hasGarden(garden)) {
            throw new IndexOutOfBoundsException("no such garden");
        }
        history.keep(ditch);
        boolean before = ditch.gardens[garden].isThief;
        ditch.gardens[garden].isThief = isThief;
        return before;
    }

    public int complain(int garden, int other)
            throws IndexOutOfBoundsException, IllegalArgumentException, UnsupportedOperationException {
        if (!ditch.hasGarden(garden) || !ditch.hasGarden(other)) {
            throw new IndexOutOfBoundsException("no such garden");
        }
        if (garden == other) {
            throw new IllegalArgumentException("a garden does not complain of itself");
        }
        if (ditch.refusesComplaint(garden, other, refused)) {
            throw new UnsupportedOperationException("the complaint is refused");
        }
        history.keep(ditch);
        ditch.addComplaint(garden, other);
        return ditch.complaintCount;
    }

    public int repair(int stretch) throws IndexOutOfBoundsException, UnsupportedOperationException {
        if (!ditch.hasGate(stretch)) {
            throw new IndexOutOfBoundsException("no such stretch");
        }
        if (ditch.refusesRepair(stretch, refused)) {
            throw new UnsupportedOperationException("the repair is refused");
        }
        history.keep(ditch);
        ditch.mend(stretch);
        return ditch.chest;
    }

    public int pass(int hours) throws IllegalArgumentException {
        if (!isSpan(hours)) {
            throw new IllegalArgumentException("hours are 1 to 200");
        }
        history.keep(ditch);
        return ditch.letHoursGoBy(hours);
    }

    // What there is

    public int gateOf(int gate, int what) throws IndexOutOfBoundsException, IllegalArgumentException {
        if (!ditch.hasGate(gate)) {
            throw new IndexOutOfBoundsException("no such gate");
        }
        if (!isWithin(what, 0, LAST_OF_GATE)) {
            throw new IllegalArgumentException("what is from 0 to 6");
        }
        return ditch.numberOfGate(gate, what);
    }

    public int nextOpen(int gate) throws IndexOutOfBoundsException, NoSuchElementException {
        if (!ditch.hasGate(gate)) {
            throw new IndexOutOfBoundsException("no such gate");
        }
        int wait = ditch.gates[gate].hoursUntilOpen(ditch.hour);
        if (wait == NONE) {
            throw new NoSuchElementException("the gate is never open");
        }
        return ditch.hour + wait;
    }

    public int gardenOf(int garden, int what) throws IndexOutOfBoundsException, IllegalArgumentException {
        if (!ditch.hasGarden(garden)) {
            throw new IndexOutOfBoundsException("no such garden");
        }
        if (!isWithin(what, 0, LAST_OF_GARDEN)) {
            throw new IllegalArgumentException("what is from 0 to 8");
        }
        return ditch.gardens[garden].numberOf(what);
    }

    public int thirsty(int gate, int place) throws IndexOutOfBoundsException, NoSuchElementException {
        if (!ditch.hasGate(gate)) {
            throw new IndexOutOfBoundsException("no such gate");
        }
        if (place < 0 || place >= ditch.putInOrder(gate)) {
            throw new NoSuchElementException("no such place");
        }
        return ditch.order[place].number;
    }

    public int placeAgain(int garden) throws IndexOutOfBoundsException {
        if (!ditch.hasGarden(garden)) {
            throw new IndexOutOfBoundsException("no such garden");
        }
        return ditch.countAheadOf(ditch.gardens[garden]);
    }

    public int complaint(int place, boolean isOther) throws NoSuchElementException {
        if (place < 0 || place >= ditch.complaintCount) {
            throw new NoSuchElementException("no such place");
        }
        return isOther ? ditch.accused[place] : ditch.complainers[place];
    }

    public char sign(int garden) throws IndexOutOfBoundsException {
        if (!ditch.hasGarden(garden)) {
            throw new IndexOutOfBoundsException("no such garden");
        }
        int thirst = ditch.gardens[garden].thirst;
        if (thirst >= DRY_THIRST) {
            return 'd';
        }
        return thirst > 0 ? 't' : 'w';
    }

    public int part(int garden, int stretch) throws IndexOutOfBoundsException {
        if (!ditch.hasGarden(garden) || !ditch.hasGate(stretch)) {
            throw new IndexOutOfBoundsException("no such garden or stretch");
        }
        return ditch.partOf(garden, stretch, ditch.sharesFrom(stretch));
    }

    // Ahead

    public int ahead(int gate, int hours) throws IndexOutOfBoundsException, IllegalArgumentException {
        if (!ditch.hasGate(gate)) {
            throw new IndexOutOfBoundsException("no such gate");
        }
        if (!isSpan(hours)) {
            throw new IllegalArgumentException("hours are 1 to 200");
        }
        trial.copyFrom(ditch);
        return trial.takeInHours(gate, hours);
    }

    public int dryIn() throws NoSuchElementException {
        trial.copyFrom(ditch);
        for (int hours = 0; hours <= MOST_HOURS; hours++) {
            if (trial.hasDriestGarden()) {
                return hours;
            }
            trial.letHourGoBy();
        }
        throw new NoSuchElementException("no garden gets the thirst 99 in 200 hours");
    }

    public int bestHour(int gate) throws IndexOutOfBoundsException, NoSuchElementException {
        if (!ditch.hasGate(gate)) {
            throw new IndexOutOfBoundsException("no such gate");
        }
        int best = NONE;
        int most = NONE;
        for (int wait = 0; wait < HOURS_OF_DAY; wait++) {
            int hour = ditch.hour + wait;
            if (!ditch.gates[gate].isOpenIn(hour)) {
                trial.copyFrom(ditch);
                trial.gates[gate].setHour(hour, true);
                int taken = trial.takeInHours(gate, HOURS_OF_DAY);
                if (taken > most) {
                    most = taken;
                    best = wait;
                }
            }
        }
        if (best == NONE) {
            throw new NoSuchElementException("the gate is open in all of these hours");
        }
        return ditch.hour + best;
    }

    // Texts, accounts, undo and snapshot

    public int append(char c) throws IllegalStateException {
        if (text.length >= MOST_SIGNS) {
            throw new IllegalStateException("the input contains 60 characters");
        }
        text.add(c);
        return text.length;
    }

    public int read() throws IllegalArgumentException, UnsupportedOperationException {
        boolean isText = text.takeApart();
        text.length = 0;
        errorOffset = isText ? NONE : text.at;
        if (!isText) {
            throw new IllegalArgumentException("the text has an error");
        }
        trial.copyFrom(ditch);
        int outcome = DONE;
        for (int i = 0; i < text.orderCount && outcome == DONE; i++) {
            outcome = trial.carryOut(text.orders[i], refused);
        }
        if (outcome == WRONG) {
            throw new IllegalArgumentException("an order cannot be carried out");
        }
        if (outcome == REFUSED) {
            throw new UnsupportedOperationException("an order is refused");
        }
        history.keep(ditch);
        ditch.copyFrom(trial);
        return text.orderCount;
    }

    public int errorPosition() {
        return errorOffset;
    }

    public int refusal(boolean isDetail) throws NoSuchElementException {
        if (refused.reason == 0) {
            throw new NoSuchElementException("nothing was refused");
        }
        return isDetail ? refused.detail : refused.reason;
    }

    public int account(int what) throws IllegalArgumentException {
        if (!isWithin(what, 0, LAST_ACCOUNT)) {
            throw new IllegalArgumentException("what is from 0 to 18");
        }
        if (what == ACCOUNT_OF_INPUT) {
            return text.length;
        }
        if (what == ACCOUNT_OF_CHANGES) {
            return history.count;
        }
        return ditch.accountOf(what);
    }

    public boolean isWell() {
        return ditch.isBalanced();
    }

    public float share() throws ArithmeticException {
        if (ditch.books.cameIn == 0) {
            throw new ArithmeticException("no water came in");
        }
        return (float) ditch.books.drunk / (float) ditch.books.cameIn;
    }

    public double meanThirst() throws ArithmeticException {
        if (ditch.gardenCount == 0) {
            throw new ArithmeticException("there are no gardens");
        }
        return (double) ditch.sumOfThirsts() / (double) ditch.gardenCount;
    }

    public int undo() throws IllegalStateException {
        if (history.count == 0) {
            throw new IllegalStateException("no change can be undone");
        }
        history.giveBack(ditch);
        return history.count;
    }

    public int save() {
        snapshot.copyFrom(ditch);
        hasSnapshot = true;
        return ditch.gardenCount;
    }

    public int restore() throws IllegalStateException {
        if (!hasSnapshot) {
            throw new IllegalStateException("there is no snapshot");
        }
        ditch.copyFrom(snapshot);
        history.count = 0;
        return ditch.gardenCount;
    }

    private static boolean isWithin(int number, int least, int most) {
        return number >= least && number <= most;
    }

    private static boolean isInflow(int water) {
        return isWithin(water, 0, MOST_INFLOW);
    }

    private static boolean isSpan(int hours) {
        return isWithin(hours, 1, MOST_HOURS);
    }

    private static boolean areHoursOfWeek(int from, int to) {
        return from >= 0 && from <= to && to < HOURS_OF_WEEK;
    }

    /** What changes can change, and how an hour goes by. */
    private static final class Ditch {
        final Gate[] gates = new Gate[MOST_GATES];
        final Garden[] gardens = new Garden[MOST_GARDENS];
        final int[] complainers = new int[MOST_COMPLAINTS];
        final int[] accused = new int[MOST_COMPLAINTS];
        /** A row to put the gardens of one gate in order; nothing is kept in it between two calls. */
        final Garden[] order = new Garden[MOST_GARDENS];
        final Books books = new Books();
        int gateCount;
        int gardenCount;
        int complaintCount;
        int hour;
        int inflow = FIRST_INFLOW;
        int fine = FIRST_FINE;
        int chest;

        Ditch() {
            for (int i = 0; i < MOST_GATES; i++) {
                gates[i] = new Gate();
            }
            for (int i = 0; i < MOST_GARDENS; i++) {
                gardens[i] = new Garden(i);
                order[i] = gardens[i];
            }
        }

        /** Gates and gardens beyond the counts are left as they are: they are set up anew when they are added. */
        void copyFrom(Ditch other) {
            gateCount = other.gateCount;
            gardenCount = other.gardenCount;
            complaintCount = other.complaintCount;
            hour = other.hour;
            inflow = other.inflow;
            fine = other.fine;
            chest = other.chest;
            books.copyFrom(other.books);
            for (int i = 0; i < gateCount; i++) {
                gates[i].copyFrom(other.gates[i]);
            }
            for (int i = 0; i < gardenCount; i++) {
                gardens[i].copyFrom(other.gardens[i]);
            }
            for (int i = 0; i < complaintCount; i++) {
                complainers[i] = other.complainers[i];
                accused[i] = other.accused[i];
            }
        }

        boolean hasGate(int gate) {
            return gate >= 0 && gate < gateCount;
        }

        boolean hasGarden(int garden) {
            return garden >= 0 && garden < gardenCount;
        }

        /** Returns the number of the new gate, or NONE if there is no place for it. */
        int addGate(int width) {
            if (gateCount >= MOST_GATES) {
                return NONE;
            }
            int number = gateCount;
            gates[number].setUp(width);
            gateCount++;
            return number;
        }

        /** Returns the number of the new garden, or NONE if there is no place for it. */
        int addGarden(int gate, int beds, int shares, int coins) {
            if (gardenCount >= MOST_GARDENS) {
                return NONE;
            }
            int number = gardenCount;
            gardens[number].setUp(gate, beds, shares, coins);
            gardenCount++;
            return number;
        }

        // Hours

        int letHoursGoBy(int hours) {
            int before = books.drunk;
            for (int i = 0; i < hours; i++) {
                letHourGoBy();
            }
            return books.drunk - before;
        }

        int takeInHours(int gate, int hours) {
            int before = gates[gate].took;
            for (int i = 0; i < hours; i++) {
                letHourGoBy();
            }
            return gates[gate].took - before;
        }

        void letHourGoBy() {
            int hourOfWeek = Math.floorMod(hour, HOURS_OF_WEEK);
            boolean isNight = hourOfWeek % HOURS_OF_DAY < NIGHT_HOURS;
            if (!isNight) {
                growThirsts();
            }
            books.cameIn += inflow;
            int water = runPastGates(inflow);
            if (isNight) {
                water = runPastThieves(water);
            }
            books.ranOff += water;
            if (hourOfWeek == HEARING_HOUR) {
                hearComplaints();
            }
            if (hourOfWeek == HOURS_OF_WEEK - 1) {
                growLeaks();
            }
            hour++;
        }

        private void growThirsts() {
            for (int i = 0; i < gardenCount; i++) {
                Garden garden = gardens[i];
                garden.thirst = Math.min(garden.thirst + garden.beds, MOST_THIRST);
            }
        }

        private void growLeaks() {
            for (int i = 0; i < gateCount; i++) {
                gates[i].leak = Math.min(gates[i].leak + 1, MOST_LEAK);
            }
        }

        private int runPastGates(int atHead) {
            int water = atHead;
            for (int i = 0; i < gateCount; i++) {
                Gate gate = gates[i];
                int leaking = (water * gate.leak + 99) / 100;
                books.leaked += leaking;
                water -= leaking;
                if (gate.isOpenIn(hour)) {
                    int taken = Math.min(gate.width, water);
                    int left = waterGardens(i, taken);
                    gate.took += taken;
                    gate.ranBack += left;
                    water += left - taken;
                }
            }
            return water;
        }

        private int waterGardens(int gate, int taken) {
            int left = taken;
            int count = putInOrder(gate);
            for (int i = 0; i < count; i++) {
                Garden garden = order[i];
                int drink = garden.drinkOf(left);
                garden.drank += drink;
                books.drunk += drink;
                left -= drink;
            }
            return left;
        }

        private int runPastThieves(int behindGates) {
            int water = behindGates;
            for (int i = 0; i < gardenCount; i++) {
                Garden garden = gardens[i];
                if (garden.isThief) {
                    int drink = garden.drinkOf(water);
                    garden.noteTheft(drink, hour);
                    books.stolen += drink;
                    water -= drink;
                }
            }
            return water;
        }

        // The order of thirst

        /** Puts the gardens of the gate into the row by an insertion sort, and returns how many there are. */
        int putInOrder(int gate) {
            int count = 0;
            for (int i = 0; i < gardenCount; i++) {
                Garden garden = gardens[i];
                if (garden.gate == gate) {
                    int place = count;
                    while (place > 0 && garden.comesAheadOf(order[place - 1])) {
                        order[place] = order[place - 1];
                        place--;
                    }
                    order[place] = garden;
                    count++;
                }
            }
            return count;
        }

        int countAheadOf(Garden garden) {
            int count = 0;
            for (int i = 0; i < gardenCount; i++) {
                if (gardens[i].gate == garden.gate && gardens[i].comesAheadOf(garden)) {
                    count++;
                }
            }
            return count;
        }

        // Complaints

        boolean refusesComplaint(int garden, int other, Refusal refused) {
            for (int i = 0; i < complaintCount; i++) {
                if (complainers[i] == garden && accused[i] == other) {
                    return refused.note(REASON_WAITS, i);
                }
            }
            if (complaintCount >= MOST_COMPLAINTS) {
                return refused.note(REASON_FULL, MOST_COMPLAINTS);
            }
            return false;
        }

        void addComplaint(int garden, int other) {
            if (complaintCount < MOST_COMPLAINTS) {
                complainers[complaintCount] = garden;
                accused[complaintCount] = other;
                complaintCount++;
            }
        }

        private void hearComplaints() {
            for (int i = 0; i < complaintCount; i++) {
                if (hasGarden(complainers[i]) && hasGarden(accused[i])) {
                    hearComplaint(gardens[complainers[i]], gardens[accused[i]]);
                }
            }
            complaintCount = 0;
        }

        private void hearComplaint(Garden garden, Garden other) {
            books.heard++;
            if (other.stoleInWeekOf(hour)) {
                books.guilty++;
                int paid = Math.min(fine, other.coins);
                int half = paid / 2;
                other.coins -= paid;
                other.isThief = false;
                garden.coins += half;
                chest += paid - half;
            } else if (garden.coins > 0) {
                garden.coins--;
                chest++;
            }
        }

        // Repairs

        boolean refusesRepair(int stretch, Refusal refused) {
            if (gates[stretch].leak == 0) {
                return refused.note(REASON_NO_LEAK, stretch);
            }
            int allShares = sharesFrom(stretch);
            if (allShares == 0) {
                return refused.note(REASON_NO_GARDEN, stretch);
            }
            int coins = chest;
            for (int i = 0; i < gardenCount; i++) {
                coins += paymentOf(i, stretch, allShares);
            }
            int cost = gates[stretch].costOfRepair();
            if (coins < cost) {
                return refused.note(REASON_TOO_FEW_COINS, cost - coins);
            }
            return false;
        }

        void mend(int stretch) {
            int allShares = sharesFrom(stretch);
            for (int i = 0; i < gardenCount; i++) {
                int payment = paymentOf(i, stretch, allShares);
                gardens[i].coins -= payment;
                chest += payment;
            }
            chest -= gates[stretch].costOfRepair();
            gates[stretch].leak = 0;
            books.repairs++;
        }

        /** The shares of all gardens at the gate of the stretch or below it. */
        int sharesFrom(int stretch) {
            int sum = 0;
            for (int i = 0; i < gardenCount; i++) {
                if (gardens[i].gate >= stretch) {
                    sum += gardens[i].shares;
                }
            }
            return sum;
        }

        int partOf(int garden, int stretch, int allShares) {
            if (gardens[garden].gate < stretch || allShares <= 0) {
                return 0;
            }
            int whole = gates[stretch].costOfRepair() * gardens[garden].shares;
            return (whole + allShares - 1) / allShares;
        }

        private int paymentOf(int garden, int stretch, int allShares) {
            return Math.min(partOf(garden, stretch, allShares), gardens[garden].coins);
        }

        // Orders of a text

        /** Returns DONE, or WRONG or REFUSED for an order that cannot be carried out, which changes nothing. */
        int carryOut(Order order, Refusal refused) {
            switch (order.kind) {
                case 'o':
                case 's':
                    return orderHours(order);
                case 'h':
                    if (!isSpan(order.first)) {
                        return WRONG;
                    }
                    // Not by letHoursGoBy, which would be one call deeper.
                    for (int i = 0; i < order.first; i++) {
                        letHourGoBy();
                    }
                    return DONE;
                case 'i':
                    return orderInflow(order.first);
                case 'c':
                    return orderComplaint(order.first, order.second, refused);
                case 'r':
                    return orderRepair(order.first, refused);
                default:
                    return WRONG;
            }
        }

        private int orderHours(Order order) {
            if (!hasGate(order.first) || !areHoursOfWeek(order.second, order.third)) {
                return WRONG;
            }
            gates[order.first].setHours(order.second, order.third, order.kind == 'o');
            return DONE;
        }

        private int orderInflow(int water) {
            if (!isInflow(water)) {
                return WRONG;
            }
            inflow = water;
            return DONE;
        }

        private int orderComplaint(int garden, int other, Refusal refused) {
            if (!hasGarden(garden) || !hasGarden(other) || garden == other) {
                return WRONG;
            }
            if (refusesComplaint(garden, other, refused)) {
                return REFUSED;
            }
            addComplaint(garden, other);
            return DONE;
        }

        private int orderRepair(int stretch, Refusal refused) {
            if (!hasGate(stretch)) {
                return WRONG;
            }
            if (refusesRepair(stretch, refused)) {
                return REFUSED;
            }
            mend(stretch);
            return DONE;
        }

        // Numbers

        int numberOfGate(int gate, int what) {
            switch (what) {
                case 0:
                    return gates[gate].width;
                case 1:
                    return gates[gate].leak;
                case 2:
                    return gates[gate].isOpenIn(hour) ? 1 : 0;
                case 3:
                    return gates[gate].countOpenHours();
                case 4:
                    return countGardensAt(gate);
                case 5:
                    return gates[gate].took;
                default:
                    return gates[gate].ranBack;
            }
        }

        private int countGardensAt(int gate) {
            int count = 0;
            for (int i = 0; i < gardenCount; i++) {
                if (gardens[i].gate == gate) {
                    count++;
                }
            }
            return count;
        }

        int accountOf(int what) {
            switch (what) {
                case 0:
                    return hour;
                case 1:
                    return inflow;
                case 2:
                    return fine;
                case 3:
                    return gateCount;
                case 4:
                    return gardenCount;
                case 5:
                    return complaintCount;
                case 6:
                    return chest;
                case 7:
                    return sumOfCoins();
                case 16:
                    return sumOfThirsts();
                default:
                    return books.numberOf(what);
            }
        }

        private int sumOfCoins() {
            int sum = 0;
            for (int i = 0; i < gardenCount; i++) {
                sum += gardens[i].coins;
            }
            return sum;
        }

        int sumOfThirsts() {
            int sum = 0;
            for (int i = 0; i < gardenCount; i++) {
                sum += gardens[i].thirst;
            }
            return sum;
        }

        boolean hasDriestGarden() {
            for (int i = 0; i < gardenCount; i++) {
                if (gardens[i].thirst >= MOST_THIRST) {
                    return true;
                }
            }
            return false;
        }

        /** Whether the water that came in is all that went, found by the books and by gates and gardens. */
        boolean isBalanced() {
            int drank = 0;
            int stole = 0;
            for (int i = 0; i < gardenCount; i++) {
                drank += gardens[i].drank;
                stole += gardens[i].stole;
            }
            int kept = 0;
            for (int i = 0; i < gateCount; i++) {
                kept += gates[i].took - gates[i].ranBack;
            }
            return books.cameIn == books.leaked + books.drunk + books.stolen + books.ranOff
                    && books.drunk == drank && books.drunk == kept && books.stolen == stole;
        }
    }

    /** A gate with the stretch ahead of it. */
    private static final class Gate {
        /** One number a day, in which the bit of an hour is 1 if the gate is open in it. */
        final int[] openHours = new int[DAYS_OF_WEEK];
        int width;
        int leak;
        int took;
        int ranBack;

        void setUp(int newWidth) {
            width = newWidth;
            leak = FIRST_LEAK;
            took = 0;
            ranBack = 0;
            for (int day = 0; day < DAYS_OF_WEEK; day++) {
                openHours[day] = 0;
            }
        }

        void copyFrom(Gate other) {
            width = other.width;
            leak = other.leak;
            took = other.took;
            ranBack = other.ranBack;
            for (int day = 0; day < DAYS_OF_WEEK; day++) {
                openHours[day] = other.openHours[day];
            }
        }

        int costOfRepair() {
            return 2 * leak;
        }

        boolean isOpenIn(int hour) {
            int hourOfWeek = Math.floorMod(hour, HOURS_OF_WEEK);
            int bit = 1 << hourOfWeek % HOURS_OF_DAY;
            return (openHours[hourOfWeek / HOURS_OF_DAY] & bit) != 0;
        }

        void setHour(int hour, boolean isOpen) {
            int hourOfWeek = Math.floorMod(hour, HOURS_OF_WEEK);
            int day = hourOfWeek / HOURS_OF_DAY;
            int bit = 1 << hourOfWeek % HOURS_OF_DAY;
            openHours[day] = isOpen ? openHours[day] | bit : openHours[day] & ~bit;
        }

        void setHours(int from, int to, boolean isOpen) {
            for (int hour = from; hour <= to; hour++) {
                setHour(hour, isOpen);
            }
        }

        int countOpenHours() {
            int count = 0;
            for (int day = 0; day < DAYS_OF_WEEK; day++) {
                count += Integer.bitCount(openHours[day]);
            }
            return count;
        }

        int hoursUntilOpen(int hour) {
            for (int wait = 0; wait < HOURS_OF_WEEK; wait++) {
                if (isOpenIn(hour + wait)) {
                    return wait;
                }
            }
            return NONE;
        }
    }

    private static final class Garden {
        final int number;
        int gate;
        int beds;
        int shares;
        int coins;
        int thirst;
        boolean isThief;
        int drank;
        int stole;
        int latestTheft;

        Garden(int number) {
            this.number = number;
        }

        void setUp(int newGate, int newBeds, int newShares, int newCoins) {
            gate = newGate;
            beds = newBeds;
            shares = newShares;
            coins = newCoins;
            thirst = 0;
            isThief = false;
            drank = 0;
            stole = 0;
            latestTheft = NONE;
        }

        void copyFrom(Garden other) {
            gate = other.gate;
            beds = other.beds;
            shares = other.shares;
            coins = other.coins;
            thirst = other.thirst;
            isThief = other.isThief;
            drank = other.drank;
            stole = other.stole;
            latestTheft = other.latestTheft;
        }

        boolean comesAheadOf(Garden other) {
            if (thirst != other.thirst) {
                return thirst > other.thirst;
            }
            if (shares != other.shares) {
                return shares > other.shares;
            }
            return number < other.number;
        }

        /** Drinks as much of the water as it may and there is, and returns how much. */
        int drinkOf(int water) {
            int drink = Math.min(Math.min(DRINK_OF_A_BED * beds, thirst), water);
            thirst -= drink;
            return drink;
        }

        void noteTheft(int drink, int hour) {
            if (drink > 0) {
                stole += drink;
                latestTheft = hour;
            }
        }

        boolean stoleInWeekOf(int hour) {
            return latestTheft != NONE && latestTheft >= hour - HOURS_OF_WEEK;
        }

        int numberOf(int what) {
            switch (what) {
                case 0:
                    return gate;
                case 1:
                    return beds;
                case 2:
                    return shares;
                case 3:
                    return coins;
                case 4:
                    return thirst;
                case 5:
                    return isThief ? 1 : 0;
                case 6:
                    return drank;
                case 7:
                    return stole;
                default:
                    return latestTheft;
            }
        }
    }

    /** What was counted so far. */
    private static final class Books {
        int cameIn;
        int leaked;
        int drunk;
        int stolen;
        int ranOff;
        int heard;
        int guilty;
        int repairs;

        void copyFrom(Books other) {
            cameIn = other.cameIn;
            leaked = other.leaked;
            drunk = other.drunk;
            stolen = other.stolen;
            ranOff = other.ranOff;
            heard = other.heard;
            guilty = other.guilty;
            repairs = other.repairs;
        }

        int numberOf(int what) {
            switch (what) {
                case 8:
                    return cameIn;
                case 9:
                    return leaked;
                case 10:
                    return drunk;
                case 11:
                    return stolen;
                case 12:
                    return ranOff;
                case 13:
                    return heard;
                case 14:
                    return guilty;
                default:
                    return repairs;
            }
        }
    }

    /** The reason of the latest refusal with its detail; the reason 0 if nothing was refused. */
    private static final class Refusal {
        int reason;
        int detail;

        /** Returns true, so that a method can note and tell a refusal at once. */
        boolean note(int newReason, int newDetail) {
            reason = newReason;
            detail = newDetail;
            return true;
        }
    }

    /** The ditch as it was ahead of each of the latest changes, in rows that are used in turn. */
    private static final class History {
        final Ditch[] kept = new Ditch[MOST_CHANGES];
        int count;
        int next;

        History() {
            for (int i = 0; i < MOST_CHANGES; i++) {
                kept[i] = new Ditch();
            }
        }

        void keep(Ditch ditch) {
            kept[next].copyFrom(ditch);
            next = (next + 1) % MOST_CHANGES;
            count = Math.min(count + 1, MOST_CHANGES);
        }

        void giveBack(Ditch ditch) {
            next = (next + MOST_CHANGES - 1) % MOST_CHANGES;
            count--;
            ditch.copyFrom(kept[next]);
        }
    }

    /** An order of a text: its letter and its numbers, as many as this kind has. */
    private static final class Order {
        int kind;
        int first;
        int second;
        int third;
    }

    /** The input, and the orders of which it consists. */
    private static final class Text {
        final char[] signs = new char[MOST_SIGNS];
        final Order[] orders = new Order[MOST_ORDERS];
        int length;
        int orderCount;
        /** Where the next sign is taken; where the error is, if the text has one. */
        int at;

        Text() {
            for (int i = 0; i < MOST_ORDERS; i++) {
                orders[i] = new Order();
            }
        }

        void add(char sign) {
            if (length < MOST_SIGNS) {
                signs[length] = sign;
                length++;
            }
        }

        /** Finds the orders of the input, and returns whether it is a text without an error. */
        boolean takeApart() {
            at = 0;
            orderCount = 0;
            while (orderCount < MOST_ORDERS && takeOrder(orders[orderCount])) {
                orderCount++;
                if (at == length) {
                    return true;
                }
                if (!takeSign(';')) {
                    return false;
                }
            }
            return false;
        }

        private boolean takeOrder(Order order) {
            if (at >= length) {
                return false;
            }
            order.kind = signs[at];
            switch (order.kind) {
                case 'o':
                case 's':
                    at++;
                    return takeHours(order);
                case 'c':
                    at++;
                    return takeComplaint(order);
                case 'h':
                case 'i':
                    at++;
                    order.first = takeNumber(3);
                    return order.first != NONE;
                case 'r':
                    at++;
                    order.first = takeNumber(1);
                    return order.first != NONE;
                default:
                    return false;
            }
        }

        private boolean takeHours(Order order) {
            order.first = takeNumber(1);
            if (order.first == NONE || !takeSign(':')) {
                return false;
            }
            order.second = takeNumber(3);
            if (order.second == NONE || !takeSign('-')) {
                return false;
            }
            order.third = takeNumber(3);
            return order.third != NONE;
        }

        private boolean takeComplaint(Order order) {
            order.first = takeNumber(2);
            if (order.first == NONE || !takeSign('>')) {
                return false;
            }
            order.second = takeNumber(2);
            return order.second != NONE;
        }

        private boolean takeSign(char sign) {
            if (at >= length || signs[at] != sign) {
                return false;
            }
            at++;
            return true;
        }

        /** Takes as many digits as there are, but not more than the most; NONE if there are none. */
        private int takeNumber(int mostDigits) {
            int number = NONE;
            for (int i = 0; i < mostDigits && at < length && isDigit(signs[at]); i++) {
                number = (number == NONE ? 0 : number * 10) + (signs[at] - '0');
                at++;
            }
            return number;
        }

        private static boolean isDigit(char sign) {
            return sign >= '0' && sign <= '9';
        }
    }
}
