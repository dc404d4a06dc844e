/** Edges of the promises 1 to 11: a new object, and the changes. */
final class ChangeEdges {
    private static final String MOST = "2147483647";
    private static final String LEAST = "-2147483648";

    private ChangeEdges() {
    }

    static void run() {
        newObject();
        inflow();
        fine();
        gate();
        gardenPlaces();
        gardenRanges();
        open();
        openRanges();
        pay();
        thief();
        complain();
        complainRefused();
        repair();
        pass();
    }

    private static void newObject() {
        String creates = "Creates a ditch without gates, gardens and complaints, in the hour 0, with the inflow 10";
        Edge.test("1 A new object", creates, "nothing is there, and nothing was", """
                account(0) -> 0; account(1) -> 10; account(2) -> 5; account(3) -> 0; account(4) -> 0; account(5) -> 0;
                account(6) -> 0; account(7) -> 0; account(8) -> 0; account(9) -> 0; account(10) -> 0; account(11) -> 0;
                account(12) -> 0; account(13) -> 0; account(14) -> 0; account(15) -> 0; account(16) -> 0;
                account(17) -> 0; account(18) -> 0; errorPosition() -> -1; isWell() -> true; gateOf(0, 0) -> IOOBE;
                gardenOf(0, 0) -> IOOBE; complaint(0, false) -> NSEE; refusal(false) -> NSEE; undo() -> ISE;
                restore() -> ISE; share() -> AE; meanThirst() -> AE
                """);
        AcequiaGates used = new AcequiaGates();
        boolean isFine = Script.isRunFine(used, "an object beside it", """
                inflow(200) -> 10; gate(9) -> 0; garden(0, 1, 1, 1) -> 0; open(0, 0, 167, true) -> 168; save() -> 1;
                append("h9") -> 2; repair(0) -> UOE
                """);
        isFine &= Script.isRunFine(new AcequiaGates(), "a new object beside a used one", """
                account(1) -> 10; account(3) -> 0; account(17) -> 0; account(18) -> 0; restore() -> ISE;
                refusal(true) -> NSEE; gate(3) -> 0; gateOf(0, 3) -> 0; gateOf(0, 0) -> 3; garden(0, 2, 2, 2) -> 0;
                pass(30) -> 0; fine(9) -> 5
                """);
        isFine &= Script.isRunFine(used, "the object beside it", """
                account(0) -> 0; account(2) -> 5; gateOf(0, 0) -> 9; gardenOf(0, 1) -> 1; account(17) -> 2;
                refusal(false) -> 5
                """);
        Edge.check("1 A new object", creates, "two objects have nothing in common", isFine);
    }

    private static void inflow() {
        Edge.test("2 inflow", "Sets the inflow", "for the hours that come, not for those that were",
                "pass(1) -> 0; inflow(20) -> 10; account(8) -> 10; pass(1) -> 0; account(8) -> 30; account(1) -> 20");
        Edge.test("2 inflow", "`water`: the inflow", "the least and the greatest",
                "inflow(0) -> 10; account(1) -> 0; inflow(200) -> 0; account(1) -> 200");
        Edge.test("2 inflow", "Returns the inflow before", "10 at first, and the same if it stays",
                "inflow(10) -> 10; inflow(10) -> 10; inflow(0) -> 10; inflow(0) -> 0; inflow(200) -> 0; "
                + "inflow(1) -> 200");
        Edge.test("2 inflow", "if it is out of range", "the first ones that are, and the last ones",
                "inflow(-1) -> IAE; inflow(201) -> IAE;",
                "inflow(" + MOST + ") -> IAE; inflow(" + LEAST + ") -> IAE; inflow(210) -> IAE; inflow(-200) -> IAE; "
                + "account(1) -> 10");
    }

    private static void fine() {
        Edge.test("3 fine", "Sets the fine", "the one that is set last is paid", """
                gate(1) -> 0; garden(0, 1, 1, 0) -> 0; garden(0, 1, 1, 50) -> 1; thief(1, true) -> false;
                complain(0, 1) -> 1; fine(30) -> 5; pass(84) -> 0; fine(8) -> 30; pass(1) -> 0; gardenOf(1, 3) -> 42;
                account(2) -> 8
                """);
        Edge.test("3 fine", "`fine`: the fine", "the least and the greatest", "fine(1) -> 5; account(2) -> 1; "
                + "fine(30) -> 1; account(2) -> 30");
        Edge.test("3 fine", "Returns the fine before", "5 at first, and the same if it stays",
                "fine(5) -> 5; fine(5) -> 5; fine(6) -> 5; fine(5) -> 6");
        Edge.test("3 fine", "if it is out of range", "the first ones that are, and the last ones",
                "fine(0) -> IAE; fine(31) -> IAE; fine(-1) -> IAE;",
                "fine(" + MOST + ") -> IAE; fine(" + LEAST + ") -> IAE; account(2) -> 5");
    }

    private static void gate() {
        String adds = "Adds a gate behind the last one, which is shut";
        Edge.test("4 gate", adds, "the first one, and one behind gates that are open", """
                gate(9) -> 0; gateOf(0, 2) -> 0; gateOf(0, 3) -> 0; open(0, 0, 167, true) -> 168; gate(8) -> 1;
                gateOf(1, 2) -> 0; gateOf(1, 3) -> 0; gateOf(0, 3) -> 168; pass(1) -> 0; gateOf(0, 5) -> 9;
                gateOf(1, 5) -> 0; account(9) -> 2
                """);
        Edge.test("4 gate", adds, "one in place of one that was undone, which was open and took water", """
                gate(9) -> 0; open(0, 0, 167, true) -> 168; pass(24) -> 0; gateOf(0, 5) -> 216; undo() -> 2;
                undo() -> 1; undo() -> 0; gate(8) -> 0; gateOf(0, 0) -> 8; gateOf(0, 1) -> 5; gateOf(0, 2) -> 0;
                gateOf(0, 3) -> 0; gateOf(0, 5) -> 0; gateOf(0, 6) -> 0; nextOpen(0) -> NSEE; save() -> 0;
                open(0, 0, 167, true) -> 168; gate(7) -> 1; open(1, 3, 160, true) -> 158; pass(167) -> 0;
                restore() -> 0; gate(6) -> 1; gateOf(1, 1) -> 5; gateOf(1, 3) -> 0; gateOf(1, 5) -> 0;
                gateOf(1, 6) -> 0; gateOf(0, 3) -> 0
                """);
        Edge.test("4 gate", "`width`: its width", "the least and the greatest", "gate(1) -> 0; gate(60) -> 1; "
                + "gateOf(0, 0) -> 1; gateOf(1, 0) -> 60");
        Edge.test("4 gate", "Returns its number", "0 for the first one, 5 for the sixth", Edge.gates(5),
                "gate(7) -> 5; gateOf(5, 0) -> 7");
        Edge.test("4 gate", "if the width is out of range", "the first ones that are, and the last ones",
                "gate(0) -> IAE; gate(61) -> IAE;",
                "gate(-1) -> IAE; gate(" + MOST + ") -> IAE; gate(" + LEAST + ") -> IAE; account(3) -> 0");
        Edge.test("4 gate", "if it is refused for reason 1", "the seventh, and again", Edge.gates(6),
                "gate(1) -> UOE; gate(60) -> UOE; account(3) -> 6; undo() -> 5; gate(1) -> 5; gate(1) -> UOE");
        Edge.test("4 gate", "the reason is kept for refusal", "1 with 6", Edge.gates(6),
                "gate(1) -> UOE; refusal(false) -> 1; refusal(true) -> 6");
        Edge.test("Exceptions", "the one that is documented first is thrown",
                "4 gate: a wrong width ahead of a seventh gate", Edge.gates(6),
                "gate(0) -> IAE; gate(61) -> IAE; refusal(false) -> NSEE; gate(60) -> UOE");
    }

    private static void gardenPlaces() {
        Edge.test("5 garden", "Adds a garden", "it has no thirst, is no thief, and drank nothing", """
                gate(5) -> 0; pass(30) -> 0; garden(0, 3, 2, 1) -> 0; gardenOf(0, 4) -> 0; gardenOf(0, 5) -> 0;
                gardenOf(0, 6) -> 0; gardenOf(0, 7) -> 0; gardenOf(0, 8) -> -1
                """);
        Edge.test("5 garden", "Adds a garden", "one in place of one that was undone, which thirsted, drank and stole",
                """
                gate(5) -> 0; garden(0, 9, 9, 9) -> 0; thief(0, true) -> false; open(0, 20, 20, true) -> 1;
                pass(30) -> 5; gardenOf(0, 7) -> 54; undo() -> 4; undo() -> 3; undo() -> 2; undo() -> 1;
                garden(0, 2, 3, 4) -> 0; gardenOf(0, 1) -> 2; gardenOf(0, 2) -> 3; gardenOf(0, 3) -> 4;
                gardenOf(0, 4) -> 0; gardenOf(0, 5) -> 0; gardenOf(0, 6) -> 0; gardenOf(0, 7) -> 0;
                gardenOf(0, 8) -> -1; open(0, 20, 20, true) -> 1; save() -> 1; garden(0, 9, 9, 9) -> 1;
                thief(1, true) -> false; pass(30) -> 5; restore() -> 1; garden(0, 1, 1, 1) -> 1; gardenOf(1, 4) -> 0;
                gardenOf(1, 5) -> 0; gardenOf(1, 6) -> 0; gardenOf(1, 7) -> 0; gardenOf(1, 8) -> -1
                """);
        Edge.test("5 garden", "`gate`: its gate", "the first and the last of six", Edge.gates(6), """
                garden(0, 1, 1, 1) -> 0; garden(5, 1, 1, 1) -> 1; gardenOf(0, 0) -> 0; gardenOf(1, 0) -> 5;
                gateOf(5, 4) -> 1
                """);
        Edge.test("5 garden", "Returns its number", "0 for the first one, 11 for the twelfth", "gate(5) -> 0;",
                Edge.gardens(11),
                "garden(0, 7, 1, 1) -> 11; gardenOf(11, 1) -> 7");
        Edge.test("5 garden", "if there is no such gate", "none yet, -1, and one behind the last",
                "garden(0, 1, 1, 1) -> IOOBE;", Edge.gates(2),
                "garden(-1, 1, 1, 1) -> IOOBE; garden(2, 1, 1, 1) -> IOOBE; garden(" + MOST
                + ", 1, 1, 1) -> IOOBE; garden(" + LEAST
                + ", 1, 1, 1) -> IOOBE; account(4) -> 0; garden(1, 1, 1, 1) -> 0");
        Edge.test("5 garden", "if there is no such gate", "a seventh gate", Edge.gates(6),
                "garden(6, 1, 1, 1) -> IOOBE; account(4) -> 0");
        Edge.test("5 garden", "if it is refused for reason 1", "the thirteenth, at any gate",
                "gate(5) -> 0; gate(5) -> 1;", Edge.gardens(12),
                "garden(0, 1, 1, 1) -> UOE; garden(1, 20, 9, 99) -> UOE; account(4) -> 12; undo() -> 7; "
                + "garden(1, 2, 1, 1) -> 11");
        Edge.test("5 garden", "the reason is kept for refusal", "1 with 12", "gate(5) -> 0;", Edge.gardens(12),
                "garden(0, 1, 1, 1) -> UOE; refusal(false) -> 1; refusal(true) -> 12");
        String first = "the one that is documented first is thrown";
        Edge.test("Exceptions", first, "5 garden: no such gate ahead of numbers out of range", "gate(5) -> 0;", """
                garden(1, 0, 1, 1) -> IOOBE; garden(1, 1, 0, 1) -> IOOBE; garden(1, 1, 1, 100) -> IOOBE;
                garden(-1, 21, 10, -1) -> IOOBE
                """);
        Edge.test("Exceptions", first, "5 garden: both ahead of a thirteenth garden", "gate(5) -> 0;", Edge.gardens(12),
                """
                garden(1, 1, 1, 1) -> IOOBE; garden(0, 0, 1, 1) -> IAE; garden(0, 1, 10, 1) -> IAE;
                garden(0, 1, 1, -1) -> IAE; garden(1, 0, 0, 100) -> IOOBE; refusal(false) -> NSEE;
                garden(0, 1, 1, 1) -> UOE
                """);
    }

    private static void gardenRanges() {
        Edge.test("5 garden", "`beds`: its beds", "1 and 20", "gate(5) -> 0; garden(0, 1, 1, 0) -> 0; "
                + "garden(0, 20, 1, 0) -> 1; gardenOf(0, 1) -> 1; gardenOf(1, 1) -> 20");
        Edge.test("5 garden", "`shares`: its shares", "1 and 9", "gate(5) -> 0; garden(0, 1, 1, 0) -> 0; "
                + "garden(0, 1, 9, 0) -> 1; gardenOf(0, 2) -> 1; gardenOf(1, 2) -> 9");
        Edge.test("5 garden", "`coins`: its coins, 0 to 99", "0 and 99", "gate(5) -> 0; garden(0, 1, 1, 0) -> 0; "
                + "garden(0, 1, 1, 99) -> 1; gardenOf(0, 3) -> 0; gardenOf(1, 3) -> 99");
        String range = "if a number is out of range";
        String far = MOST + ", 1, 1) -> IAE; garden(0, " + LEAST + ", 1, 1) -> IAE; garden(0, 1, " + MOST
                + ", 1) -> IAE; garden(0, 1, "
                + LEAST + ", 1) -> IAE; garden(0, 1, 1, " + MOST + ") -> IAE; garden(0, 1, 1, " + LEAST
                + ") -> IAE; account(4) -> 0";
        Edge.test("5 garden", range, "beds of 0 and 21", "gate(5) -> 0; garden(0, 0, 1, 1) -> IAE; "
                + "garden(0, 21, 1, 1) -> IAE; account(4) -> 0");
        Edge.test("5 garden", range, "shares of 0 and 10", "gate(5) -> 0; garden(0, 1, 0, 1) -> IAE; "
                + "garden(0, 1, 10, 1) -> IAE; account(4) -> 0");
        Edge.test("5 garden", range, "coins of -1 and 100", "gate(5) -> 0; garden(0, 1, 1, -1) -> IAE; "
                + "garden(0, 1, 1, 100) -> IAE; account(4) -> 0");
        Edge.test("5 garden", range, "the greatest and the least numbers", "gate(5) -> 0; garden(0, " + far);
    }

    private static void open() {
        String opens = "Opens or shuts a gate in hours of the week";
        Edge.test("6 open", opens, "all of them, all but the first and the last, none", """
                gate(5) -> 0; open(0, 0, 167, true) -> 168; open(0, 0, 0, false) -> 167;
                open(0, 167, 167, false) -> 166; open(0, 1, 166, false) -> 0; nextOpen(0) -> NSEE
                """);
        Edge.test("6 open", opens, "this gate alone", Edge.gates(6), """
                open(2, 3, 4, true) -> 2; gateOf(1, 3) -> 0; gateOf(3, 3) -> 0; open(5, 0, 167, true) -> 168;
                gateOf(2, 3) -> 2; gateOf(4, 3) -> 0; open(5, 3, 3, false) -> 167; gateOf(2, 3) -> 2
                """);
        Edge.test("6 open", "`gate`: the gate", "the first and the last of six", Edge.gates(6),
                "open(0, 0, 0, true) -> 1; open(5, 0, 1, true) -> 2");
        Edge.test("6 open", "`from`: the first hour of the week", "0 and 167, and it is one of them", """
                gate(5) -> 0; open(0, 0, 1, true) -> 2; gateOf(0, 2) -> 1; open(0, 167, 167, true) -> 3;
                open(0, 0, 1, false) -> 1; nextOpen(0) -> 167; open(0, 23, 24, true) -> 3; nextOpen(0) -> 23
                """);
        Edge.test("6 open", "`to`: the last one, not less than the first one",
                "the same as the first, and the last of the week", """
                gate(5) -> 0; open(0, 5, 5, true) -> 1; nextOpen(0) -> 5; pass(6) -> 0; nextOpen(0) -> 173;
                open(0, 7, 8, true) -> 3; pass(2) -> 0; gateOf(0, 2) -> 1; pass(1) -> 0; gateOf(0, 2) -> 0;
                open(0, 166, 167, true) -> 5; pass(157) -> 0; nextOpen(0) -> 166; pass(1) -> 0; nextOpen(0) -> 167;
                pass(1) -> 0; nextOpen(0) -> 173
                """);
        Edge.test("6 open", "`isOpen`: whether it is open then", "hours that are so already, and others", """
                gate(5) -> 0; open(0, 0, 9, false) -> 0; open(0, 2, 3, true) -> 2; open(0, 2, 3, true) -> 2;
                open(0, 3, 4, true) -> 3; open(0, 4, 9, false) -> 2; open(0, 0, 2, false) -> 1; nextOpen(0) -> 3
                """);
        Edge.test("6 open", "Returns in how many hours of the week it is open then", "0, 1, 24, 25, 167 and 168", """
                gate(5) -> 0; open(0, 9, 9, false) -> 0; open(0, 0, 0, true) -> 1; open(0, 0, 23, true) -> 24;
                open(0, 24, 24, true) -> 25; open(0, 1, 167, true) -> 168; open(0, 84, 84, false) -> 167
                """);
    }

    private static void openRanges() {
        Edge.test("6 open", "if there is no such gate", "none yet, -1, and one behind the last",
                "open(0, 0, 0, true) -> IOOBE;", Edge.gates(2),
                "open(-1, 0, 0, true) -> IOOBE; open(2, 0, 0, true) -> IOOBE; open(" + MOST
                + ", 0, 0, true) -> IOOBE; open(" + LEAST
                + ", 0, 0, true) -> IOOBE; open(1, 0, 0, true) -> 1");
        String range = "if an hour is out of range, or the last one is less than the first one";
        Edge.test("6 open", range, "the first hour -1, the last one 168", """
                gate(5) -> 0; open(0, -1, 5, true) -> IAE; open(0, 5, 168, true) -> IAE; open(0, -1, 168, true) -> IAE;
                open(0, -1, -1, true) -> IAE; open(0, 168, 168, true) -> IAE; open(0, 168, 169, true) -> IAE;
                gateOf(0, 3) -> 0
                """);
        Edge.test("6 open", range, "the last one less than the first one by 1, and by most", """
                gate(5) -> 0; open(0, 6, 5, true) -> IAE; open(0, 1, 0, true) -> IAE; open(0, 167, 166, true) -> IAE;
                open(0, 167, 0, true) -> IAE; open(0, 0, -1, true) -> IAE; gateOf(0, 3) -> 0; open(0, 6, 6, true) -> 1;
                open(0, 7, 6, false) -> IAE; gateOf(0, 3) -> 1
                """);
        Edge.test("6 open", range, "the greatest and the least numbers", "gate(5) -> 0; open(0, 0, " + MOST
                + ", true) -> IAE; open(0, " + LEAST
                + ", 5, true) -> IAE; open(0, " + LEAST + ", " + MOST + ", true) -> IAE; open(0, " + MOST + ", " + MOST
                + ", true) -> IAE; open(0, " + LEAST + ", " + LEAST + ", false) -> IAE; gateOf(0, 3) -> 0");
        Edge.test("Exceptions", "the one that is documented first is thrown",
                "6 open: no such gate ahead of wrong hours", """
                open(0, -1, 168, true) -> IOOBE; gate(5) -> 0; open(1, 5, 4, true) -> IOOBE;
                open(-1, 0, 168, true) -> IOOBE; open(0, 5, 4, true) -> IAE
                """);
    }

    private static void pay() {
        Edge.test("7 pay", "Gives a garden coins", "this one alone, beyond 99 too", "gate(5) -> 0;", Edge.gardens(3),
                """
                pay(1, 99) -> 108; pay(1, 99) -> 207; gardenOf(0, 3) -> 9; gardenOf(1, 3) -> 207; gardenOf(2, 3) -> 9;
                account(7) -> 225; account(6) -> 0
                """);
        Edge.test("7 pay", "`garden`: the garden", "the first and the twelfth", "gate(5) -> 0;", Edge.gardens(12),
                "pay(0, 1) -> 10; pay(11, 2) -> 11");
        Edge.test("7 pay", "`coins`: how many, 1 to 99", "1 and 99", "gate(5) -> 0; garden(0, 1, 1, 0) -> 0; "
                + "pay(0, 1) -> 1; pay(0, 99) -> 100");
        Edge.test("7 pay", "Returns its coins then", "from 0 coins, and from 99",
                "gate(5) -> 0; garden(0, 1, 1, 0) -> 0; garden(0, 1, 1, 99) -> 1;",
                "pay(0, 5) -> 5; pay(1, 5) -> 104; pay(0, 5) -> 10");
        Edge.test("7 pay", "if there is no such garden", "none yet, -1, and one behind the last",
                "pay(0, 1) -> IOOBE; gate(5) -> 0; pay(0, 1) -> IOOBE;",
                Edge.gardens(2), "pay(-1, 1) -> IOOBE; pay(2, 1) -> IOOBE; pay(" + MOST + ", 1) -> IOOBE; pay(" + LEAST
                + ", 1) -> IOOBE; pay(1, 1) -> 10");
        Edge.test("7 pay", "if the number is out of range", "0 and 100, the greatest and the least", "gate(5) -> 0;",
                Edge.gardens(1),
                "pay(0, 0) -> IAE; pay(0, 100) -> IAE; pay(0, -1) -> IAE; pay(0, " + MOST + ") -> IAE; pay(0, " + LEAST
                + ") -> IAE; gardenOf(0, 3) -> 9");
        Edge.test("Exceptions", "the one that is documented first is thrown",
                "7 pay: no such garden ahead of a wrong number",
                "pay(0, 0) -> IOOBE; gate(5) -> 0; garden(0, 1, 1, 1) -> 0; pay(1, 100) -> IOOBE; pay(-1, 0) -> IOOBE; "
                + "pay(0, 0) -> IAE");
    }

    private static void thief() {
        Edge.test("8 thief", "Tells whether a garden is a thief", "this one alone", "gate(5) -> 0;", Edge.gardens(3),
                "thief(1, true) -> false; gardenOf(0, 5) -> 0; gardenOf(1, 5) -> 1; gardenOf(2, 5) -> 0");
        Edge.test("8 thief", "`garden`: the garden", "the first and the twelfth", "gate(5) -> 0;", Edge.gardens(12),
                "thief(0, true) -> false; thief(11, true) -> false; gardenOf(0, 5) -> 1; gardenOf(11, 5) -> 1; "
                + "gardenOf(1, 5) -> 0");
        Edge.test("8 thief", "`isThief`: whether it is", "as it is already, and otherwise", "gate(5) -> 0;",
                Edge.gardens(1), """
                thief(0, false) -> false; gardenOf(0, 5) -> 0; thief(0, true) -> false; thief(0, true) -> true;
                gardenOf(0, 5) -> 1; thief(0, false) -> true; gardenOf(0, 5) -> 0
                """);
        Edge.test("8 thief", "Returns whether it was", "not at first, not when it was found guilty", """
                gate(1) -> 0; garden(0, 1, 1, 1) -> 0; garden(0, 1, 1, 1) -> 1; thief(0, true) -> false;
                complain(1, 0) -> 1; pass(85) -> 0; thief(0, true) -> false; thief(0, true) -> true
                """);
        Edge.test("8 thief", "if there is no such garden", "none yet, -1, and one behind the last",
                "thief(0, true) -> IOOBE; gate(5) -> 0;", Edge.gardens(2),
                "thief(-1, true) -> IOOBE; thief(2, true) -> IOOBE; thief(" + MOST + ", false) -> IOOBE; thief(" + LEAST
                + ", true) -> IOOBE");
    }

    private static void complain() {
        String four = "gate(5) -> 0;" + Edge.gardens(12);
        Edge.test("9 complain", "Complains of a garden", "nothing else is different", four,
                "complain(3, 4) -> 1; account(7) -> 108; account(13) -> 0; gardenOf(4, 5) -> 0; "
                + "complaint(0, false) -> 3; complaint(0, true) -> 4");
        Edge.test("9 complain", "`garden`: the garden that complains", "the first and the twelfth", four,
                "complain(0, 5) -> 1; complain(11, 5) -> 2; complaint(0, false) -> 0; complaint(1, false) -> 11");
        Edge.test("9 complain", "`other`: the one of which it complains", "the first and the twelfth", four,
                "complain(5, 0) -> 1; complain(5, 11) -> 2; complaint(0, true) -> 0; complaint(1, true) -> 11");
        Edge.test("9 complain", "Returns how many complaints wait then",
                "1 for the first one, 8 for the last one, 1 behind the hearing", four, """
                complain(0, 1) -> 1; complain(0, 2) -> 2; complain(0, 3) -> 3; complain(0, 4) -> 4; complain(0, 5) -> 5;
                complain(0, 6) -> 6; complain(0, 7) -> 7; complain(0, 8) -> 8; pass(85) -> 0; complain(0, 8) -> 1
                """);
        Edge.test("9 complain", "if there is no such garden", "none yet, -1, and one behind the last, on either side",
                "complain(0, 1) -> IOOBE; gate(5) -> 0;", Edge.gardens(2), "complain(-1, 0) -> IOOBE; "
                + "complain(0, -1) -> IOOBE;"
                + "complain(2, 0) -> IOOBE; complain(0, 2) -> IOOBE; complain(" + MOST + ", 0) -> IOOBE; complain(0, "
                + LEAST
                + ") -> IOOBE; complain(0, " + MOST + ") -> IOOBE; complain(" + LEAST
                + ", 0) -> IOOBE; account(5) -> 0; complain(1, 0) -> 1");
        Edge.test("9 complain", "if both are the same", "the first and the last", four,
                "complain(0, 0) -> IAE; complain(11, 11) -> IAE; account(5) -> 0");
    }

    private static void complainRefused() {
        String eight = "gate(5) -> 0;" + Edge.gardens(12) + """
                complain(0, 1) -> 1; complain(0, 2) -> 2; complain(0, 3) -> 3; complain(0, 4) -> 4; complain(0, 5) -> 5;
                complain(0, 6) -> 6; complain(0, 7) -> 7; complain(0, 8) -> 8;
                """;
        Edge.test("9 complain", "if it is refused for reason 2 or 1", "each of eight again, and a ninth", eight, """
                complain(0, 1) -> UOE; complain(0, 8) -> UOE; complain(0, 9) -> UOE; account(5) -> 8; undo() -> 7;
                complain(0, 8) -> 8; complain(0, 8) -> UOE
                """);
        Edge.test("9 complain", "the reason is kept for refusal", "2 with its place, 1 with 8", eight, """
                complain(0, 8) -> UOE; refusal(false) -> 2; refusal(true) -> 7; complain(1, 0) -> UOE;
                refusal(false) -> 1; refusal(true) -> 8; complain(0, 1) -> UOE; refusal(false) -> 2; refusal(true) -> 0
                """);
        String first = "the one that is documented first is thrown";
        Edge.test("Exceptions", first, "9 complain: no such garden ahead of both being the same", """
                complain(0, 0) -> IOOBE; gate(5) -> 0; garden(0, 1, 1, 1) -> 0; complain(1, 1) -> IOOBE;
                complain(-1, -1) -> IOOBE; complain(0, 0) -> IAE
                """);
        Edge.test("Exceptions", first, "9 complain: both ahead of a refusal", eight, """
                complain(12, 0) -> IOOBE; complain(0, 12) -> IOOBE; complain(0, 0) -> IAE; complain(11, 11) -> IAE;
                refusal(false) -> NSEE; complain(1, 0) -> UOE; refusal(false) -> 1
                """);
    }

    private static void repair() {
        Edge.test("10 repair", "Repairs a stretch", "this one alone, and it leaks nothing then", Edge.gates(3), """
                garden(2, 1, 1, 50) -> 0; repair(1) -> 0; gateOf(0, 1) -> 5; gateOf(1, 1) -> 0; gateOf(2, 1) -> 5;
                pass(1) -> 0; account(9) -> 2; account(15) -> 1; account(18) -> 6
                """);
        Edge.test("10 repair", "`stretch`: the stretch", "the first and the last of six", Edge.gates(6), """
                garden(5, 1, 1, 50) -> 0; repair(0) -> 0; repair(5) -> 0; gateOf(0, 1) -> 0; gateOf(5, 1) -> 0;
                account(15) -> 2
                """);
        Edge.test("10 repair", "Returns the coins of the chest then", "0, 2, and what was there already", Edge.gates(3),
                """
                garden(2, 1, 1, 50) -> 0; repair(0) -> 0; garden(2, 1, 1, 50) -> 1; garden(2, 1, 1, 50) -> 2;
                repair(1) -> 2; repair(2) -> 4; account(6) -> 4
                """);
        Edge.test("10 repair", "if there is no such stretch", "none yet, -1, and one behind the last gate",
                "repair(0) -> IOOBE;", Edge.gates(2),
                "garden(1, 1, 1, 50) -> 0; repair(-1) -> IOOBE; repair(2) -> IOOBE; repair(" + MOST
                + ") -> IOOBE; repair(" + LEAST
                + ") -> IOOBE; account(15) -> 0; repair(1) -> 0");
        Edge.test("10 repair", "if it is refused for reason 3, 4 or 5", "each of them, and nothing is paid",
                Edge.gates(2), """
                repair(0) -> UOE; garden(0, 1, 1, 9) -> 0; repair(0) -> UOE; repair(1) -> UOE; account(7) -> 9;
                pay(0, 1) -> 10; repair(0) -> 0; pay(0, 9) -> 9; repair(0) -> UOE; account(7) -> 9; account(6) -> 0;
                account(15) -> 1
                """);
        Edge.test("10 repair", "the reason is kept for refusal", "4, then 5, then 3", "gate(5) -> 0;", """
                repair(0) -> UOE; refusal(false) -> 4; refusal(true) -> 0; garden(0, 1, 1, 9) -> 0; repair(0) -> UOE;
                refusal(false) -> 5; refusal(true) -> 1; pay(0, 1) -> 10; repair(0) -> 0; refusal(false) -> 5;
                repair(0) -> UOE; refusal(false) -> 3; refusal(true) -> 0
                """);
        Edge.test("Exceptions", "the one that is documented first is thrown",
                "10 repair: no such stretch ahead of a refusal", """
                repair(0) -> IOOBE; gate(5) -> 0; repair(1) -> IOOBE; refusal(false) -> NSEE; repair(0) -> UOE
                """);
    }

    private static void pass() {
        Edge.test("11 pass", "Lets hours go by", "one by one, or 200 at once, is the same", "200 * pass(1) -> 0;",
                "account(0) -> 200; account(8) -> 2000; pass(200) -> 0; account(0) -> 400; account(8) -> 4000");
        Edge.test("11 pass", "`hours`: how many, 1 to 200", "1 and 200", "pass(1) -> 0; account(0) -> 1; "
                + "pass(200) -> 0; account(0) -> 201; account(18) -> 2");
        Edge.test("11 pass", "Returns how much was drunk in them by watering",
                "none, in the last hour alone, not what was stolen or drunk before", """
                gate(6) -> 0; garden(0, 2, 1, 0) -> 0; open(0, 23, 24, true) -> 2; thief(0, true) -> false;
                pass(23) -> 0; pass(1) -> 6; pass(1) -> 6; gardenOf(0, 7) -> 3; pass(1) -> 0; gardenOf(0, 7) -> 9;
                account(10) -> 12; pass(166) -> 6; account(10) -> 18
                """);
        Edge.test("11 pass", "if the number is out of range", "0 and 201, the greatest and the least",
                "pass(0) -> IAE; pass(201) -> IAE; pass(-1) -> IAE;",
                "pass(" + MOST + ") -> IAE; pass(" + LEAST + ") -> IAE; account(0) -> 0; account(18) -> 0");
    }
}
