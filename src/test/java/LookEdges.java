/** Edges of the promises 12 to 22: what there is, and what comes ahead. */
final class LookEdges {
    private static final String MOST = "2147483647";
    private static final String LEAST = "-2147483648";
    private static final String FIRST = "the one that is documented first is thrown";

    private LookEdges() {
    }

    static void run() {
        gateOf();
        nextOpen();
        gardenOf();
        gardenNumbers();
        thirsty();
        placeAgain();
        complaint();
        sign();
        part();
        ahead();
        dryIn();
        dryAtTheEnd();
        bestHour();
        bestOfSome();
    }

    /** The call with each number that is none, where there are two gates, gardens or complaints. */
    private static String none(String name, String rest, String due) {
        StringBuilder rows = new StringBuilder();
        for (String number : new String[] {"-1", "2", MOST, LEAST}) {
            rows.append(name).append('(').append(number).append(rest).append(") -> ").append(due).append("; ");
        }
        return rows.toString();
    }

    private static void gateOf() {
        Edge.test("12 gateOf", "Returns a number of a gate", "of the first and of the last of six",
                "gate(7) -> 0; gate(1) -> 1; gate(1) -> 2; gate(1) -> 3;",
                "gate(1) -> 4; gate(60) -> 5; gateOf(0, 0) -> 7; gateOf(5, 0) -> 60; gateOf(4, 0) -> 1");
        Edge.test("12 gateOf", "`gate`: the gate", "0 and 5", Edge.gates(6), "gateOf(0, 0) -> 5; gateOf(5, 0) -> 5; "
                + "gateOf(6, 0) -> IOOBE");
        String what = "2 for 1 if it is open in the hour of the week that is now and 0 otherwise";
        Edge.test("12 gateOf", what, "each number from 0 to 6", """
                inflow(30) -> 10; gate(9) -> 0; garden(0, 1, 1, 0) -> 0; garden(0, 1, 1, 0) -> 1;
                open(0, 6, 8, true) -> 3; pass(8) -> 4; gateOf(0, 0) -> 9; gateOf(0, 1) -> 5; gateOf(0, 2) -> 1;
                gateOf(0, 3) -> 3; gateOf(0, 4) -> 2; gateOf(0, 5) -> 18; gateOf(0, 6) -> 14; pass(1) -> 2;
                gateOf(0, 2) -> 0; gateOf(0, 5) -> 27; gateOf(0, 6) -> 21
                """);
        Edge.test("12 gateOf", what, "open in 0 and 167, which come again", """
                gate(9) -> 0; open(0, 0, 0, true) -> 1; open(0, 167, 167, true) -> 2; gateOf(0, 2) -> 1; pass(1) -> 0;
                gateOf(0, 2) -> 0; pass(165) -> 0; gateOf(0, 2) -> 0; pass(1) -> 0; gateOf(0, 2) -> 1; pass(1) -> 0;
                gateOf(0, 2) -> 1; pass(1) -> 0; gateOf(0, 2) -> 0; pass(166) -> 0; gateOf(0, 2) -> 1
                """);
        Edge.test("12 gateOf", what, "no garden, one, and twelve; those of other gates are not counted", Edge.gates(2),
                Edge.gardens(11), """
                gateOf(0, 4) -> 11; gateOf(1, 4) -> 0; garden(1, 1, 1, 1) -> 11; gateOf(1, 4) -> 1; undo() -> 7;
                garden(0, 1, 1, 1) -> 11; gateOf(0, 4) -> 12; gateOf(1, 4) -> 0
                """);
        Edge.test("12 gateOf", "Returns the number", "0 of all, and 168 open hours",
                "gate(1) -> 0; open(0, 0, 167, true) -> 168; gateOf(0, 3) -> 168;",
                "gateOf(0, 4) -> 0; gateOf(0, 5) -> 0; gateOf(0, 6) -> 0; open(0, 0, 167, false) -> 0; "
                + "gateOf(0, 3) -> 0; gateOf(0, 2) -> 0");
        Edge.test("12 gateOf", "if there is no such gate", "none yet, -1, and one behind the last",
                "gateOf(0, 0) -> IOOBE;", Edge.gates(2),
                none("gateOf", ", 0", "IOOBE"), none("gateOf", ", 6", "IOOBE"), "gateOf(1, 0) -> 5");
        Edge.test("12 gateOf", "if what is not from 0 to 6", "-1 and 7, the greatest and the least",
                "gate(1) -> 0; gateOf(0, -1) -> IAE; gateOf(0, 7) -> IAE;",
                "gateOf(0, " + MOST + ") -> IAE; gateOf(0, " + LEAST + ") -> IAE; gateOf(0, 6) -> 0; "
                + "gateOf(0, 0) -> 1");
        Edge.test("Exceptions", FIRST, "12 gateOf: no such gate ahead of a wrong what", "gateOf(0, 7) -> IOOBE;",
                Edge.gates(2), none("gateOf", ", 7", "IOOBE"),
                none("gateOf", ", -1", "IOOBE"), "gateOf(1, 7) -> IAE");
    }

    private static void nextOpen() {
        String next = "Returns the next hour, this one included, in which a gate is open";
        Edge.test("13 nextOpen", next, "this hour, the next one, and the last one that can be", """
                gate(1) -> 0; pass(9) -> 0; open(0, 9, 9, true) -> 1; nextOpen(0) -> 9; open(0, 10, 10, true) -> 2;
                open(0, 9, 9, false) -> 1; nextOpen(0) -> 10; open(0, 8, 8, true) -> 2; open(0, 10, 10, false) -> 1;
                nextOpen(0) -> 176
                """);
        Edge.test("13 nextOpen", next, "behind the end of the week", """
                gate(1) -> 0; open(0, 0, 0, true) -> 1; nextOpen(0) -> 0; pass(1) -> 0; nextOpen(0) -> 168;
                pass(166) -> 0; nextOpen(0) -> 168; open(0, 167, 167, true) -> 2; nextOpen(0) -> 167; pass(1) -> 0;
                nextOpen(0) -> 168; pass(1) -> 0; nextOpen(0) -> 335; pass(167) -> 0; nextOpen(0) -> 336
                """);
        Edge.test("13 nextOpen", "`gate`: the gate", "the first and the last of six", Edge.gates(6),
                "open(0, 3, 3, true) -> 1; open(5, 7, 7, true) -> 1;",
                "nextOpen(0) -> 3; nextOpen(5) -> 7; nextOpen(4) -> NSEE");
        Edge.test("13 nextOpen", "Returns the hour", "counted from 0, not within the week",
                "gate(1) -> 0; open(0, 3, 3, true) -> 1; 3 * pass(200) -> 0; nextOpen(0) -> 675");
        Edge.test("13 nextOpen", "if there is no such gate", "none yet, -1, and one behind the last",
                "nextOpen(0) -> IOOBE;", Edge.gates(2),
                none("nextOpen", "", "IOOBE"), "open(1, 4, 4, true) -> 1; nextOpen(1) -> 4");
        Edge.test("13 nextOpen", "if it is never open", "at first, and when its only hour is shut", """
                gate(1) -> 0; nextOpen(0) -> NSEE; open(0, 167, 167, true) -> 1; nextOpen(0) -> 167;
                open(0, 167, 167, false) -> 0; nextOpen(0) -> NSEE
                """);
        Edge.test("Exceptions", FIRST, "13 nextOpen: a gate that is not there is never open too",
                "nextOpen(0) -> IOOBE; gate(1) -> 0; nextOpen(1) -> IOOBE; nextOpen(0) -> NSEE");
    }

    private static void gardenOf() {
        Edge.test("14 gardenOf", "Returns a number of a garden", "of the first and of the twelfth", "gate(7) -> 0;",
                Edge.gardens(11),
                "garden(0, 5, 1, 1) -> 11; gardenOf(0, 1) -> 1; gardenOf(11, 1) -> 5; gardenOf(10, 1) -> 1");
        Edge.test("14 gardenOf", "`garden`: the garden", "0 and 11", "gate(5) -> 0;", Edge.gardens(12),
                "gardenOf(0, 3) -> 9; gardenOf(11, 3) -> 9; gardenOf(12, 3) -> IOOBE");
        Edge.test("14 gardenOf", "if there is no such garden", "none yet, -1, and one behind the last",
                "gardenOf(0, 0) -> IOOBE; gate(5) -> 0; gardenOf(0, 0) -> IOOBE;",
                Edge.gardens(2), none("gardenOf", ", 0", "IOOBE"), none("gardenOf", ", 8", "IOOBE"),
                "gardenOf(1, 3) -> 9");
        Edge.test("14 gardenOf", "if what is not from 0 to 8", "-1 and 9, the greatest and the least", "gate(5) -> 0;",
                Edge.gardens(1), "gardenOf(0, -1) -> IAE; gardenOf(0, 9) -> IAE;",
                "gardenOf(0, " + MOST + ") -> IAE; gardenOf(0, " + LEAST + ") -> IAE; gardenOf(0, 8) -> -1; "
                + "gardenOf(0, 0) -> 0");
        Edge.test("Exceptions", FIRST, "14 gardenOf: no such garden ahead of a wrong what",
                "gardenOf(0, 9) -> IOOBE; gate(5) -> 0;", Edge.gardens(2),
                none("gardenOf", ", 9", "IOOBE"), none("gardenOf", ", -1", "IOOBE"), "gardenOf(1, 9) -> IAE");
    }

    private static void gardenNumbers() {
        String what = "8 for the latest hour in which it stole something, -1 if it never did";
        Edge.test("14 gardenOf", what, "each number from 0 to 8", """
                inflow(30) -> 10; gate(1) -> 0; gate(9) -> 1; garden(0, 1, 1, 0) -> 0; garden(1, 3, 4, 7) -> 1;
                open(1, 23, 23, true) -> 1; thief(1, true) -> false; pass(25) -> 9; gardenOf(1, 0) -> 1;
                gardenOf(1, 1) -> 3; gardenOf(1, 2) -> 4; gardenOf(1, 3) -> 7; gardenOf(1, 4) -> 36;
                gardenOf(1, 5) -> 1; gardenOf(1, 6) -> 9; gardenOf(1, 7) -> 9; gardenOf(1, 8) -> 24;
                gardenOf(0, 5) -> 0; gardenOf(0, 6) -> 0; gardenOf(0, 7) -> 0; gardenOf(0, 8) -> -1
                """);
        Edge.test("14 gardenOf", what, "a thief in whose nights there is nothing to steal never did", """
                inflow(1) -> 10; gate(1) -> 0; garden(0, 3, 4, 7) -> 0; thief(0, true) -> false; pass(200) -> 0;
                gardenOf(0, 8) -> -1; gardenOf(0, 7) -> 0; inflow(2) -> 1; pass(15) -> 0; account(0) -> 215;
                gardenOf(0, 8) -> -1; pass(1) -> 0; gardenOf(0, 8) -> -1; pass(1) -> 0; gardenOf(0, 8) -> 216;
                gardenOf(0, 7) -> 1
                """);
        Edge.test("14 gardenOf", "Returns the number", "the greatest thirst, no coins, and what was drunk in all", """
                inflow(200) -> 10; gate(60) -> 0; garden(0, 20, 9, 0) -> 0; pass(24) -> 0; gardenOf(0, 4) -> 99;
                gardenOf(0, 3) -> 0; open(0, 0, 167, true) -> 168; pass(2) -> 99; gardenOf(0, 4) -> 0;
                gardenOf(0, 6) -> 99
                """);
    }

    private static void thirsty() {
        String gardens = "gate(5) -> 0; gate(5) -> 1; gate(5) -> 2; garden(1, 1, 1, 1) -> 0; garden(0, 1, 2, 1) -> 1; "
                + "garden(1, 1, 2, 1) -> 2;";
        String order = "by the order in which it would be watered, as thirsts are now";
        Edge.test("15 thirsty", order, "shares and numbers while none thirsts", gardens, """
                garden(1, 1, 1, 1) -> 3; thirsty(1, 0) -> 2; thirsty(1, 1) -> 0; thirsty(1, 2) -> 3; thirsty(0, 0) -> 1
                """);
        Edge.test("15 thirsty", order, "not as they would be behind the growth of this hour", gardens, """
                garden(1, 20, 1, 1) -> 3; pass(6) -> 0; thirsty(1, 0) -> 2; thirsty(1, 1) -> 0; thirsty(1, 2) -> 3;
                pass(1) -> 0; thirsty(1, 0) -> 3; thirsty(1, 1) -> 2; thirsty(1, 2) -> 0
                """);
        Edge.test("15 thirsty", "`gate`: the gate", "the first and the last of six", Edge.gates(6),
                "garden(5, 1, 1, 1) -> 0; garden(0, 1, 1, 1) -> 1; thirsty(0, 0) -> 1; thirsty(5, 0) -> 0");
        Edge.test("15 thirsty", "`place`: its place, from 0", "the first and the last of twelve", "gate(5) -> 0;",
                Edge.gardens(12), """
                thirsty(0, 0) -> 0; thirsty(0, 11) -> 11; thirsty(0, 12) -> NSEE
                """);
        Edge.test("15 thirsty", "Returns the garden", "by its number among all, not at its gate", gardens,
                "thirsty(1, 0) -> 2; thirsty(1, 1) -> 0; thirsty(0, 0) -> 1");
        Edge.test("15 thirsty", "if there is no such gate", "none yet, -1, and one behind the last",
                "thirsty(0, 0) -> IOOBE;", Edge.gates(2), Edge.gardens(3),
                none("thirsty", ", 0", "IOOBE"), "thirsty(0, 0) -> 0");
        Edge.test("15 thirsty", "if there is no such place",
                "-1, one behind the last, and none at a gate without gardens", gardens,
                "thirsty(1, -1) -> NSEE; thirsty(1, 2) -> NSEE;",
                "thirsty(1, " + MOST + ") -> NSEE; thirsty(1, " + LEAST + ") -> NSEE; thirsty(2, 0) -> NSEE; "
                + "thirsty(0, 1) -> NSEE; thirsty(0, 0) -> 1");
        Edge.test("Exceptions", FIRST, "15 thirsty: no such gate ahead of no such place",
                "thirsty(0, 0) -> IOOBE; gate(5) -> 0; gate(5) -> 1;", none("thirsty", ", -1", "IOOBE"),
                none("thirsty", ", 0", "IOOBE"), "thirsty(0, 0) -> NSEE");
    }

    private static void placeAgain() {
        String place = "how many gardens of its gate come ahead of it";
        Edge.test("16 placeAgain", place, "none ahead of the only one, eleven ahead of the last of twelve",
                "gate(5) -> 0; gate(5) -> 1; garden(1, 1, 1, 1) -> 0; placeAgain(0) -> 0; undo() -> 2;",
                Edge.gardens(12), "placeAgain(0) -> 0; placeAgain(1) -> 1; placeAgain(11) -> 11");
        Edge.test("16 placeAgain", place, "those of other gates do not count", """
                gate(5) -> 0; gate(5) -> 1; garden(0, 20, 9, 1) -> 0; garden(1, 1, 1, 1) -> 1; garden(0, 20, 9, 1) -> 2;
                garden(1, 1, 1, 1) -> 3; pass(9) -> 0; placeAgain(1) -> 0; placeAgain(3) -> 1; placeAgain(0) -> 0;
                placeAgain(2) -> 1
                """);
        Edge.test("16 placeAgain", "`garden`: the garden", "thirst, then shares, then numbers", """
                gate(5) -> 0; garden(0, 1, 1, 1) -> 0; garden(0, 1, 2, 1) -> 1; garden(0, 2, 1, 1) -> 2;
                garden(0, 1, 2, 1) -> 3; placeAgain(0) -> 2; placeAgain(1) -> 0; placeAgain(2) -> 3; placeAgain(3) -> 1;
                pass(7) -> 0; placeAgain(0) -> 3; placeAgain(1) -> 1; placeAgain(2) -> 0; placeAgain(3) -> 2
                """);
        Edge.test("16 placeAgain", "Returns the place.", "that which thirsty tells", """
                gate(5) -> 0; garden(0, 1, 1, 1) -> 0; garden(0, 1, 2, 1) -> 1; garden(0, 2, 1, 1) -> 2;
                thirsty(0, 0) -> 1; thirsty(0, 1) -> 0; thirsty(0, 2) -> 2; placeAgain(1) -> 0; placeAgain(0) -> 1;
                placeAgain(2) -> 2
                """);
        Edge.test("16 placeAgain", "if there is no such garden", "none yet, -1, and one behind the last",
                "placeAgain(0) -> IOOBE; gate(5) -> 0; placeAgain(0) -> IOOBE;", Edge.gardens(2),
                none("placeAgain", "", "IOOBE"), "placeAgain(1) -> 1");
    }

    private static void complaint() {
        String two = "gate(5) -> 0;" + Edge.gardens(9) + "complain(8, 0) -> 1; complain(3, 2) -> 2;";
        Edge.test("17 complaint", "Returns a complaint", "it stays, however often it is looked at", two,
                "complaint(0, false) -> 8; complaint(0, false) -> 8; account(5) -> 2");
        Edge.test("17 complaint", "`place`: its place, from 0", "0 and the last of eight", two, """
                complain(1, 2) -> 3; complain(1, 3) -> 4; complain(1, 4) -> 5; complain(1, 5) -> 6; complain(1, 6) -> 7;
                complain(1, 7) -> 8; complaint(0, false) -> 8; complaint(7, true) -> 7; complaint(7, false) -> 1;
                complaint(8, true) -> NSEE; complaint(8, false) -> NSEE
                """);
        Edge.test("17 complaint", "true for the garden complained of, false for the one that complains", "both of both",
                two,
                "complaint(0, true) -> 0; complaint(0, false) -> 8; complaint(1, true) -> 2; complaint(1, false) -> 3");
        Edge.test("17 complaint", "Returns the garden", "the first and the last one", two,
                "complaint(0, true) -> 0; complaint(0, false) -> 8");
        Edge.test("17 complaint", "if there is no such place",
                "no complaint yet, -1, one behind the last, none behind the hearing", "complaint(0, true) -> NSEE;",
                two,
                none("complaint", ", true", "NSEE"), none("complaint", ", false", "NSEE"),
                "pass(85) -> 0; complaint(0, true) -> NSEE; complaint(0, false) -> NSEE; complaint(1, true) -> NSEE");
    }

    private static void sign() {
        String signs = "Returns \"d\" if its thirst is 60 or more, otherwise \"t\" if it is above 0, otherwise \"w\"";
        Edge.test("18 sign", "Returns the sign of a garden", "of each one by its own thirst", """
                gate(1) -> 0; garden(0, 20, 1, 1) -> 0; garden(0, 1, 1, 1) -> 1; pass(9) -> 0; garden(0, 1, 1, 1) -> 2;
                sign(0) -> d; sign(1) -> t; sign(2) -> w
                """);
        Edge.test("18 sign", "`garden`: the garden", "the first and the twelfth", "gate(5) -> 0;", Edge.gardens(12),
                "sign(0) -> w; sign(11) -> w; sign(12) -> IOOBE");
        Edge.test("18 sign", signs, "the thirsts 0, 1, 59, 60 and 99", """
                gate(1) -> 0; garden(0, 1, 1, 1) -> 0; sign(0) -> w; pass(6) -> 0; gardenOf(0, 4) -> 0; sign(0) -> w;
                pass(1) -> 0; gardenOf(0, 4) -> 1; sign(0) -> t; pass(76) -> 0; gardenOf(0, 4) -> 59; sign(0) -> t;
                pass(1) -> 0; gardenOf(0, 4) -> 60; sign(0) -> d; pass(100) -> 0; gardenOf(0, 4) -> 99; sign(0) -> d
                """);
        Edge.test("18 sign", signs, "back from 60 to 59, and to 0", """
                inflow(2) -> 10; gate(1) -> 0; garden(0, 20, 1, 1) -> 0; pass(9) -> 0; gardenOf(0, 4) -> 60;
                pass(15) -> 0; open(0, 24, 63, true) -> 40; pass(1) -> 1; gardenOf(0, 4) -> 98;
                garden(0, 20, 1, 1) -> 1; sign(1) -> w; sign(0) -> d
                """);
        Edge.test("18 sign", "if there is no such garden", "none yet, -1, and one behind the last",
                "sign(0) -> IOOBE; gate(5) -> 0; sign(0) -> IOOBE;", Edge.gardens(2), none("sign", "", "IOOBE"),
                "sign(1) -> w");
    }

    private static void part() {
        String would = "what a garden would have to pay for the repair of a stretch";
        Edge.test("19 part", would, "with as many coins, less, and none", """
                gate(5) -> 0; garden(0, 1, 1, 5) -> 0; garden(0, 1, 1, 4) -> 1; part(0, 0) -> 5; part(1, 0) -> 5;
                undo() -> 2; garden(0, 1, 1, 0) -> 1; part(1, 0) -> 5; part(0, 0) -> 5
                """);
        Edge.test("19 part", would, "rounded up, and not if it need not be", """
                gate(5) -> 0; garden(0, 1, 3, 0) -> 0; part(0, 0) -> 10; garden(0, 1, 7, 0) -> 1; part(0, 0) -> 3;
                part(1, 0) -> 7; garden(0, 1, 1, 0) -> 2; part(0, 0) -> 3; part(1, 0) -> 7; part(2, 0) -> 1;
                garden(0, 1, 9, 0) -> 3; part(0, 0) -> 2; part(1, 0) -> 4; part(2, 0) -> 1; part(3, 0) -> 5
                """);
        Edge.test("19 part", "0 if it does not pay for it", "its gate is one above the stretch, or the leak is 0",
                Edge.gates(3), """
                garden(1, 1, 1, 20) -> 0; part(0, 2) -> 0; part(0, 1) -> 10; part(0, 0) -> 10; repair(1) -> 0;
                part(0, 1) -> 0; part(0, 0) -> 10; garden(2, 1, 1, 0) -> 1; part(0, 2) -> 0; part(1, 2) -> 10;
                part(1, 1) -> 0; part(1, 0) -> 5
                """);
        Edge.test("19 part", "`garden`: the garden", "the first and the twelfth", "gate(5) -> 0;", Edge.gardens(12),
                "part(0, 0) -> 1; part(11, 0) -> 1");
        Edge.test("19 part", "`stretch`: the stretch", "the first and the last of six", Edge.gates(6),
                "garden(5, 1, 1, 0) -> 0; garden(0, 1, 1, 0) -> 1; part(0, 0) -> 5; part(0, 5) -> 10; part(1, 5) -> 0");
        Edge.test("19 part", "Returns how much", "for the least leak and the greatest", """
                gate(5) -> 0; garden(0, 1, 1, 10) -> 0; gate(5) -> 1; garden(1, 1, 9, 90) -> 1; part(0, 0) -> 1;
                repair(0) -> 0; pass(168) -> 0; part(0, 0) -> 1; part(1, 0) -> 2; 44 * pass(168) -> 0;
                part(1, 1) -> 100; part(1, 0) -> 81; part(0, 0) -> 9
                """);
        Edge.test("19 part", "if there is no such garden or stretch",
                "none yet, -1, and one behind the last, on either side", "part(0, 0) -> IOOBE; gate(5) -> 0; "
                + "part(0, 0) -> IOOBE; gate(5) -> 1;", Edge.gardens(2),
                none("part", ", 0", "IOOBE"), "part(0, -1) -> IOOBE; part(0, 2) -> IOOBE; part(0, " + MOST
                + ") -> IOOBE; part(0, " + LEAST + ") -> IOOBE; part(2, 2) -> IOOBE; part(1, 1) -> 0");
    }

    private static void ahead() {
        String would = "Returns how much a gate would take in the next hours, if only hours went by";
        Edge.test("20 ahead", would, "this hour is the first of them", """
                gate(5) -> 0; open(0, 3, 3, true) -> 1; ahead(0, 3) -> 0; ahead(0, 4) -> 5; pass(3) -> 0;
                ahead(0, 1) -> 5; pass(1) -> 0; ahead(0, 1) -> 0; ahead(0, 167) -> 0; ahead(0, 168) -> 5
                """);
        Edge.test("20 ahead", would, "over the end of the week, behind which more leaks", """
                gate(60) -> 0; open(0, 0, 167, true) -> 168; inflow(100) -> 10; pass(167) -> 0; ahead(0, 1) -> 60;
                gate(60) -> 1; open(1, 0, 0, true) -> 1; inflow(20) -> 100; ahead(0, 1) -> 19; ahead(0, 2) -> 37;
                ahead(1, 1) -> 0; ahead(1, 2) -> 16; pass(2) -> 0; gateOf(1, 5) -> 16
                """);
        Edge.test("20 ahead", would, "over a hearing, behind which a thief that was found guilty steals no more", """
                inflow(12) -> 10; gate(60) -> 0; gate(60) -> 1; garden(0, 2, 1, 50) -> 0; garden(0, 1, 1, 50) -> 1;
                thief(0, true) -> false; pass(80) -> 0; open(0, 102, 102, true) -> 1; open(1, 102, 102, true) -> 1;
                ahead(1, 23) -> 5; complain(1, 0) -> 1; ahead(1, 23) -> 1; account(5) -> 1; gardenOf(0, 5) -> 1;
                pass(23) -> 9; gateOf(1, 5) -> 1
                """);
        Edge.test("20 ahead", would, "nothing is different then", """
                gate(5) -> 0; garden(0, 1, 1, 9) -> 0; garden(0, 1, 1, 9) -> 1; open(0, 0, 167, true) -> 168;
                complain(0, 1) -> 1; ahead(0, 200) -> 1000; account(0) -> 0; account(5) -> 1; account(8) -> 0;
                account(16) -> 0; gateOf(0, 1) -> 5; gateOf(0, 5) -> 0; gardenOf(0, 3) -> 9; account(13) -> 0;
                account(18) -> 5
                """);
        Edge.test("20 ahead", "`gate`: the gate", "the first and the last of six", Edge.gates(6),
                "open(0, 0, 0, true) -> 1; open(5, 0, 0, true) -> 1; ahead(0, 1) -> 5; ahead(5, 1) -> 4; "
                + "ahead(4, 1) -> 0");
        Edge.test("20 ahead", "`hours`: how many, 1 to 200", "1 and 200", "gate(5) -> 0; open(0, 0, 167, true) -> 168; "
                + "ahead(0, 1) -> 5; ahead(0, 200) -> 1000");
        Edge.test("20 ahead", "Returns how much.", "0 if it is shut, if nothing comes, or if all leaks", """
                gate(5) -> 0; ahead(0, 200) -> 0; open(0, 0, 167, true) -> 168; inflow(0) -> 10; ahead(0, 200) -> 0;
                inflow(1) -> 0; ahead(0, 200) -> 0; inflow(2) -> 1; ahead(0, 200) -> 200
                """);
        Edge.test("20 ahead", "if there is no such gate", "none yet, -1, and one behind the last",
                "ahead(0, 1) -> IOOBE;", Edge.gates(2), none("ahead", ", 1", "IOOBE"), "ahead(1, 1) -> 0");
        Edge.test("20 ahead", "if the number is out of range", "0 and 201, the greatest and the least",
                "gate(5) -> 0; ahead(0, 0) -> IAE; ahead(0, 201) -> IAE; ahead(0, -1) -> IAE;",
                "ahead(0, " + MOST + ") -> IAE; ahead(0, " + LEAST + ") -> IAE; account(0) -> 0");
        Edge.test("Exceptions", FIRST, "20 ahead: no such gate ahead of a wrong number", "ahead(0, 0) -> IOOBE;",
                Edge.gates(2), none("ahead", ", 0", "IOOBE"), none("ahead", ", 201", "IOOBE"), "ahead(1, 0) -> IAE");
    }

    private static void dryIn() {
        String behind = "Returns behind how many hours some garden would have the thirst 99, if only hours went by";
        Edge.test("21 dryIn", behind, "the first of them, if it is the last garden too", "gate(5) -> 0;",
                Edge.gardens(11), """
                dryIn() -> 135; garden(0, 20, 1, 1) -> 11; dryIn() -> 11; account(0) -> 0; account(16) -> 0;
                account(18) -> 8
                """);
        Edge.test("21 dryIn", behind, "98 is not 99", """
                gate(5) -> 0; garden(0, 14, 1, 1) -> 0; dryIn() -> 14; pass(13) -> 0; gardenOf(0, 4) -> 98;
                dryIn() -> 1; pass(1) -> 0; gardenOf(0, 4) -> 99; dryIn() -> 0
                """);
        Edge.test("21 dryIn", "Returns how many hours, 0 if one has it now", "15, 1, 0, and 0 as long as it stays so",
                """
                gate(5) -> 0; garden(0, 11, 1, 1) -> 0; dryIn() -> 15; pass(14) -> 0; dryIn() -> 1; pass(1) -> 0;
                dryIn() -> 0; pass(60) -> 0; dryIn() -> 0
                """);
        Edge.test("21 dryIn", "Returns how many hours, 0 if one has it now", "7 over a night, in which no thirst grows",
                """
                gate(5) -> 0; garden(0, 11, 1, 1) -> 0; open(0, 23, 23, true) -> 1; pass(24) -> 5; gardenOf(0, 4) -> 94;
                dryIn() -> 7; pass(6) -> 0; dryIn() -> 1; pass(1) -> 0; dryIn() -> 0
                """);
        Edge.test("21 dryIn", "if none would in 200 hours", "no garden, and none that dries", """
                dryIn() -> NSEE; gate(60) -> 0; dryIn() -> NSEE; garden(0, 1, 1, 1) -> 0; dryIn() -> 135;
                inflow(60) -> 10; open(0, 0, 167, true) -> 168; dryIn() -> NSEE; account(0) -> 0
                """);
        Edge.test("21 dryIn", "if none would in 200 hours", "behind 201 hours it would, then behind 200", """
                gate(5) -> 0; garden(0, 1, 1, 1) -> 0; open(0, 33, 65, true) -> 33; dryIn() -> NSEE; pass(1) -> 0;
                dryIn() -> 200; undo() -> 3; dryIn() -> NSEE; open(0, 65, 65, false) -> 32; dryIn() -> 200;
                pass(200) -> any; gardenOf(0, 4) -> 99; dryIn() -> 0
                """);
    }

    private static void dryAtTheEnd() {
        String ends = "thirsts are looked at now and at the end of each hour";
        Edge.test("21 dryIn", ends, "not behind the growth, if the garden is watered in that hour", """
                gate(3) -> 0; garden(0, 14, 1, 1) -> 0; pass(13) -> 0; gardenOf(0, 4) -> 98; open(0, 13, 13, true) -> 1;
                dryIn() -> 2; pass(1) -> 3; gardenOf(0, 4) -> 96
                """);
        Edge.test("21 dryIn", ends, "at the end of the hour, though the garden is watered in the next one", """
                gate(3) -> 0; garden(0, 14, 1, 1) -> 0; open(0, 14, 14, true) -> 1; dryIn() -> 14; pass(13) -> 0;
                dryIn() -> 1; pass(1) -> 0; dryIn() -> 0; pass(1) -> 3; dryIn() -> 1
                """);
    }

    private static void bestHour() {
        String best = "that by which the gate would take most water in these 24 hours";
        Edge.test("22 bestHour", best, "this hour, or the last of the next 23, is the only one that is shut", """
                gate(5) -> 0; pass(7) -> 0; open(0, 8, 30, true) -> 23; bestHour(0) -> 7; open(0, 7, 7, true) -> 24;
                bestHour(0) -> NSEE; open(0, 30, 30, false) -> 23; bestHour(0) -> 30; account(0) -> 7;
                gateOf(0, 3) -> 23; account(18) -> 5
                """);
        Edge.test("22 bestHour", best, "an hour with more water than those ahead of it", """
                inflow(50) -> 10; gate(40) -> 0; gate(60) -> 1; garden(0, 20, 1, 0) -> 0; open(0, 6, 22, true) -> 17;
                pass(6) -> 0; bestHour(1) -> 23; open(1, 23, 23, true) -> 1; bestHour(1) -> 24;
                open(1, 24, 29, true) -> 7; bestHour(1) -> 6
                """);
        Edge.test("22 bestHour", best, "over the end of the week", """
                gate(5) -> 0; pass(160) -> 0; open(0, 160, 167, true) -> 8; bestHour(0) -> 168;
                open(0, 0, 14, true) -> 23; bestHour(0) -> 183; open(0, 15, 15, true) -> 24; bestHour(0) -> NSEE;
                open(0, 167, 167, false) -> 23; bestHour(0) -> 167
                """);
        Edge.test("22 bestHour", best,
                "leaks grow in between, so that the last hour of the week is better than the next", """
                inflow(20) -> 10; gate(60) -> 0; pass(167) -> 0; bestHour(0) -> 167; inflow(100) -> 20;
                open(0, 167, 167, true) -> 1; bestHour(0) -> 168
                """);
    }

    private static void bestOfSome() {
        Edge.test("22 bestHour", "of several the earliest one", "all are the same, or take nothing", """
                gate(5) -> 0; bestHour(0) -> 0; pass(9) -> 0; bestHour(0) -> 9; inflow(0) -> 10; bestHour(0) -> 9;
                open(0, 9, 9, true) -> 1; bestHour(0) -> 10; inflow(1) -> 0; bestHour(0) -> 10
                """);
        Edge.test("22 bestHour", "`gate`: the gate", "the first and the last of six", Edge.gates(6),
                "open(0, 0, 2, true) -> 3; open(5, 0, 4, true) -> 5; bestHour(0) -> 3; bestHour(5) -> 5");
        Edge.test("22 bestHour", "Returns the hour.", "counted from 0, not within the week",
                "gate(5) -> 0; pass(168) -> 0; bestHour(0) -> 168; open(0, 0, 3, true) -> 4; bestHour(0) -> 172");
        Edge.test("22 bestHour", "if there is no such gate", "none yet, -1, and one behind the last",
                "bestHour(0) -> IOOBE;", Edge.gates(2), none("bestHour", "", "IOOBE"), "bestHour(1) -> 0");
        Edge.test("22 bestHour", "if it is open in all of these hours", "all of the week, or just these 24", """
                gate(5) -> 0; open(0, 0, 167, true) -> 168; bestHour(0) -> NSEE; open(0, 24, 167, false) -> 24;
                bestHour(0) -> NSEE; pass(1) -> 0; bestHour(0) -> 24; open(0, 0, 23, false) -> 0; bestHour(0) -> 1
                """);
        Edge.test("Exceptions", FIRST, "22 bestHour: a gate that is not there, beside one that is always open",
                "bestHour(0) -> IOOBE; gate(5) -> 0; open(0, 0, 167, true) -> 168; bestHour(1) -> IOOBE; "
                + "bestHour(0) -> NSEE");
    }
}
