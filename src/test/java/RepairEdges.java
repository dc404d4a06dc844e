/** Edges of repairs and of the reasons for which something is refused. */
final class RepairEdges {
    private RepairEdges() {
    }

    static void run() {
        cost();
        whoPays();
        rounding();
        coins();
        chest();
        reasonOfFull();
        reasonOfComplaint();
        reasonsOfRepair();
        missing();
    }

    private static void cost() {
        String cost = "A repair of a stretch costs twice its leak";
        Edge.test("Repairs", cost, "10 at first", "gate(5) -> 0; garden(0, 1, 1, 99) -> 0; repair(0) -> 0; "
                + "gardenOf(0, 3) -> 89");
        Edge.test("Repairs", cost, "2 for a leak of 1", """
                gate(5) -> 0; garden(0, 1, 1, 99) -> 0; repair(0) -> 0; pass(168) -> 0; gateOf(0, 1) -> 1;
                repair(0) -> 0; gardenOf(0, 3) -> 87; gateOf(0, 1) -> 0; account(15) -> 2
                """);
        Edge.test("Repairs", cost, "100 for a leak of 50", """
                gate(5) -> 0; garden(0, 1, 1, 99) -> 0; pay(0, 1) -> 100; 44 * pass(168) -> 0; part(0, 0) -> 98;
                pass(168) -> 0; part(0, 0) -> 100; repair(0) -> 0; gardenOf(0, 3) -> 0; gateOf(0, 1) -> 0
                """);
    }

    private static void whoPays() {
        String who = "Each garden at its gate or at a gate below it pays by its shares";
        String gardens = "garden(0, 1, 1, 20) -> 0; garden(1, 1, 1, 20) -> 1; garden(2, 1, 1, 20) -> 2;";
        Edge.test("Repairs", who, "the first stretch, all pay", Edge.gates(3), gardens, """
                repair(0) -> 2; gardenOf(0, 3) -> 16; gardenOf(1, 3) -> 16; gardenOf(2, 3) -> 16; gateOf(0, 1) -> 0;
                gateOf(1, 1) -> 5; gateOf(2, 1) -> 5
                """);
        Edge.test("Repairs", who, "a gate above does not pay, at and below it they do", Edge.gates(3), gardens, """
                repair(1) -> 0; gardenOf(0, 3) -> 20; gardenOf(1, 3) -> 15; gardenOf(2, 3) -> 15; gateOf(0, 1) -> 5;
                gateOf(1, 1) -> 0; gateOf(2, 1) -> 5
                """);
        Edge.test("Repairs", who, "the last of six stretches", Edge.gates(6), gardens, """
                garden(5, 1, 1, 20) -> 3; garden(4, 1, 9, 20) -> 4; repair(5) -> 0; gardenOf(3, 3) -> 10;
                account(7) -> 90; gateOf(5, 1) -> 0; gateOf(4, 1) -> 5
                """);
    }

    private static void rounding() {
        part("a half of 10", 1, 1, 5, 5);
        part("a third is rounded up, and two thirds", 1, 2, 4, 7);
        part("a tenth, and nine of them", 1, 9, 1, 9);
        part("two elevenths are rounded up", 2, 9, 2, 9);
        part("a quarter is rounded up, three too", 1, 3, 3, 8);
        Edge.test("Repairs", "rounded up, or all its coins", "9 of 108 shares pay a whole coin, that of all twelve",
                "gate(5) -> 0;",
                """
                garden(0, 1, 9, 9) -> 0; garden(0, 1, 9, 9) -> 1; garden(0, 1, 9, 9) -> 2; garden(0, 1, 9, 9) -> 3;
                garden(0, 1, 9, 9) -> 4; garden(0, 1, 9, 9) -> 5; garden(0, 1, 9, 9) -> 6; garden(0, 1, 9, 9) -> 7;
                garden(0, 1, 9, 9) -> 8; garden(0, 1, 9, 9) -> 9; garden(0, 1, 9, 9) -> 10; garden(0, 1, 9, 9) -> 11;
                part(11, 0) -> 1; repair(0) -> 2; account(7) -> 96; gardenOf(0, 3) -> 8; gardenOf(11, 3) -> 8
                """);
    }

    private static void part(String what, int shares, int others, int due, int dueOfOther) {
        Edge.test("Repairs", "the cost times its shares divided by the shares of all these gardens", what,
                "gate(5) -> 0; garden(0, 1, " + shares + ", 20) -> 0; garden(0, 1, " + others
                + ", 20) -> 1; part(0, 0) -> " + due
                + "; part(1, 0) -> " + dueOfOther + "; repair(0) -> " + (due + dueOfOther - 10) + "; gardenOf(0, 3) -> "
                + (20 - due)
                + "; gardenOf(1, 3) -> " + (20 - dueOfOther));
    }

    private static void coins() {
        String coins = "rounded up, or all its coins, if these are fewer";
        // The first repair leaves 2 in the chest, so that the second one can be paid for without the last garden.
        String chestOfTwo = Edge.gates(2) + "garden(1, 1, 1, 20) -> 0; garden(1, 1, 1, 20) -> 1; garden(1, 1, 1, ";
        Edge.test("Repairs", coins, "one more than it has to pay", chestOfTwo, "9) -> 2;", """
                repair(0) -> 2; gardenOf(2, 3) -> 5; repair(1) -> 4; gardenOf(2, 3) -> 1
                """);
        Edge.test("Repairs", coins, "as many as it has to pay", chestOfTwo, "8) -> 2;", """
                repair(0) -> 2; gardenOf(2, 3) -> 4; repair(1) -> 4; gardenOf(2, 3) -> 0
                """);
        Edge.test("Repairs", coins, "one less than it has to pay", chestOfTwo, "7) -> 2;", """
                repair(0) -> 2; gardenOf(2, 3) -> 3; repair(1) -> 3; gardenOf(2, 3) -> 0
                """);
        Edge.test("Repairs", coins, "none, and then as few as can be", chestOfTwo, "4) -> 2;", """
                repair(0) -> 2; gardenOf(2, 3) -> 0; repair(1) -> 0; gardenOf(2, 3) -> 0; gardenOf(0, 3) -> 12;
                gardenOf(1, 3) -> 12; gateOf(1, 1) -> 0
                """);
    }

    private static void chest() {
        Edge.test("Repairs", "What the gardens pay comes into the chest", "a garden pays 0 of 10, the chest pays 2",
                Edge.gates(2), """
                garden(1, 1, 1, 9) -> 0; garden(1, 1, 1, 9) -> 1; garden(1, 1, 1, 7) -> 2; account(6) -> 0;
                repair(0) -> 2; account(6) -> 2; account(7) -> 13; repair(1) -> 3; account(6) -> 3; account(7) -> 2
                """);
        Edge.test("Repairs", "then the cost is paid out of the chest, and the leak is 0",
                "to the last coin, with that of the chest",
                Edge.gates(2), """
                garden(1, 1, 1, 7) -> 0; garden(1, 1, 2, 13) -> 1; repair(0) -> 1; gardenOf(0, 3) -> 3;
                gardenOf(1, 3) -> 6; part(0, 1) -> 4; part(1, 1) -> 7; repair(1) -> 0; account(7) -> 0;
                gateOf(1, 1) -> 0; account(15) -> 2
                """);
        Edge.test("In doubt, too", "What is paid for a repair above its cost stays in the chest",
                "2 coins above the cost, none above it", """
                gate(5) -> 0; gate(5) -> 1; garden(0, 1, 1, 9) -> 0; garden(0, 1, 1, 9) -> 1; garden(0, 1, 1, 9) -> 2;
                repair(0) -> 2; account(6) -> 2; account(7) -> 15; garden(1, 1, 1, 10) -> 3; repair(1) -> 2;
                account(6) -> 2; gardenOf(3, 3) -> 0
                """);
    }

    private static void reasonOfFull() {
        String full = "1, there are 6 gates, 12 gardens or 8 complaints: how many there can be";
        Edge.test("Reasons", full, "6 gates", Edge.gates(5), """
                gate(5) -> 5; refusal(false) -> NSEE; gate(5) -> UOE; refusal(false) -> 1; refusal(true) -> 6
                """);
        Edge.test("Reasons", full, "12 gardens", "gate(5) -> 0;", Edge.gardens(11), """
                garden(0, 1, 1, 1) -> 11; refusal(false) -> NSEE; garden(0, 1, 1, 1) -> UOE; refusal(false) -> 1;
                refusal(true) -> 12
                """);
        Edge.test("Reasons", full, "8 complaints", "gate(5) -> 0;", Edge.gardens(12), """
                complain(0, 1) -> 1; complain(0, 2) -> 2; complain(0, 3) -> 3; complain(0, 4) -> 4; complain(0, 5) -> 5;
                complain(0, 6) -> 6; complain(0, 7) -> 7; complain(0, 8) -> 8; refusal(false) -> NSEE;
                complain(0, 9) -> UOE; refusal(false) -> 1; refusal(true) -> 8
                """);
    }

    private static void reasonOfComplaint() {
        String waits = "2, this complaint waits already: its place, from 0";
        String eight = "gate(5) -> 0;" + Edge.gardens(12) + """
                complain(0, 11) -> 1; complain(11, 0) -> 2; complain(0, 3) -> 3; complain(0, 4) -> 4;
                complain(0, 5) -> 5; complain(0, 6) -> 6; complain(0, 7) -> 7;
                """;
        Edge.test("Reasons", waits, "the first one", eight, "complain(0, 11) -> UOE; refusal(false) -> 2; "
                + "refusal(true) -> 0");
        Edge.test("Reasons", waits, "the last one of eight", eight, """
                complain(10, 9) -> 8; complain(10, 9) -> UOE; refusal(false) -> 2; refusal(true) -> 7
                """);
        Edge.test("Reasons", waits, "half of it is not the same", eight, """
                complain(9, 11) -> 8; account(5) -> 8; complain(9, 0) -> UOE; refusal(false) -> 1
                """);
        Edge.test("Reasons", waits, "no more when it was heard", eight, """
                complain(0, 11) -> UOE; pass(85) -> 0; complain(0, 11) -> 1; complain(0, 11) -> UOE; refusal(true) -> 0
                """);
        String first = "Something is refused for the first that applies of the reasons that its method names";
        Edge.test("Reasons", first, "the reason 2 ahead of 1 for a complaint, though 1 is the lower number", eight, """
                complain(10, 9) -> 8; complain(0, 7) -> UOE; refusal(false) -> 2; refusal(true) -> 6;
                complain(7, 0) -> UOE; refusal(false) -> 1; refusal(true) -> 8
                """);
        Edge.test("Reasons", first, "the reason 4 ahead of 5 for a repair", """
                gate(5) -> 0; gate(5) -> 1; garden(0, 1, 1, 0) -> 0; repair(1) -> UOE; refusal(false) -> 4;
                refusal(true) -> 1; repair(0) -> UOE; refusal(false) -> 5; refusal(true) -> 10
                """);
        Edge.test("Reasons", first, "the reason 3 ahead of all, without a coin", """
                gate(5) -> 0; garden(0, 1, 1, 10) -> 0; repair(0) -> 0; account(7) -> 0; account(6) -> 0;
                repair(0) -> UOE; refusal(false) -> 3; refusal(true) -> 0
                """);
    }

    private static void reasonsOfRepair() {
        Edge.test("Reasons", "3, the leak is 0: the stretch", "the last of six; a leak of 1 is repaired", Edge.gates(6),
                """
                garden(5, 1, 1, 50) -> 0; repair(5) -> 0; repair(5) -> UOE; refusal(false) -> 3; refusal(true) -> 5;
                pass(168) -> 0; gateOf(5, 1) -> 1; repair(5) -> 0; gardenOf(0, 3) -> 38
                """);
        String none = "4, there is no garden at the gate of the stretch or below it: the stretch";
        Edge.test("Reasons", none, "no garden at all, at the first and the last of six", Edge.gates(6), """
                repair(0) -> UOE; refusal(false) -> 4; refusal(true) -> 0; repair(5) -> UOE; refusal(false) -> 4;
                refusal(true) -> 5
                """);
        Edge.test("Reasons", none, "the only garden is one gate above, at it, or one below", Edge.gates(3), """
                garden(1, 1, 1, 50) -> 0; repair(2) -> UOE; refusal(false) -> 4; refusal(true) -> 2; repair(1) -> 0;
                gardenOf(0, 3) -> 40; repair(0) -> 0; gardenOf(0, 3) -> 30
                """);
    }

    private static void missing() {
        String few = "5, the chest would have too few coins for the cost, with what the gardens pay";
        Edge.test("Reasons", few, "all of 10, 1 of 10, none", """
                gate(5) -> 0; garden(0, 1, 1, 0) -> 0; repair(0) -> UOE; refusal(false) -> 5; refusal(true) -> 10;
                pay(0, 1) -> 1; repair(0) -> UOE; refusal(true) -> 9; pay(0, 8) -> 9; repair(0) -> UOE;
                refusal(false) -> 5; refusal(true) -> 1; pay(0, 1) -> 10; repair(0) -> 0; account(6) -> 0;
                gardenOf(0, 3) -> 0
                """);
        Edge.test("Reasons", few, "1 with the coin of the chest, none with one coin more", Edge.gates(2), """
                garden(1, 1, 1, 6) -> 0; garden(1, 1, 2, 13) -> 1; repair(0) -> 1; gardenOf(0, 3) -> 2;
                gardenOf(1, 3) -> 6; repair(1) -> UOE; refusal(false) -> 5; refusal(true) -> 1; account(6) -> 1;
                gardenOf(0, 3) -> 2; pay(0, 1) -> 3; repair(1) -> 0
                """);
        Edge.test("Reasons", few, "what a rich garden has is not for the part of a poor one", """
                gate(5) -> 0; garden(0, 1, 1, 4) -> 0; garden(0, 1, 1, 99) -> 1; repair(0) -> UOE; refusal(false) -> 5;
                refusal(true) -> 1; gardenOf(1, 3) -> 99; gardenOf(0, 3) -> 4; gateOf(0, 1) -> 5
                """);
        Edge.test("Reasons", few, "100 for a leak of 50", """
                gate(5) -> 0; garden(0, 1, 1, 0) -> 0; 45 * pass(168) -> 0; repair(0) -> UOE; refusal(true) -> 100
                """);
    }
}
