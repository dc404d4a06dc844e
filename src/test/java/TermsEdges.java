/** Edges of the terms up to the hour: what there can be, and how much of it. */
final class TermsEdges {
    private TermsEdges() {
    }

    static void run() {
        calls();
        time();
        ditch();
        gates();
        gardens();
        drinks();
        complaints();
    }

    private static void calls() {
        Edge.test("What it is", "at most 512 calls", "the 512th call answers as the first one", """
                511 * pass(200) -> 0; account(0) -> 102200
                """);
        Edge.test("What it is", "at most 512 calls", "no number grows too great in them", """
                inflow(200) -> 10; gate(60) -> 0; open(0, 0, 167, true) -> 168; garden(0, 20, 9, 99) -> 0;
                500 * pass(200) -> any; account(8) -> 20000000; isWell() -> true; account(0) -> 100000
                """);
        Edge.test("Terms", "rounded down", "half a coin of 1 is none, and the hour 84 is in the day 3", """
                gate(1) -> 0; garden(0, 1, 1, 20) -> 0; garden(0, 2, 1, 20) -> 1; thief(1, true) -> false; fine(1) -> 5;
                complain(0, 1) -> 1; pass(85) -> 0; account(5) -> 0; gardenOf(0, 3) -> 20; gardenOf(1, 3) -> 19;
                account(6) -> 1
                """);
    }

    private static void time() {
        Edge.test("Time", "Hours are numbered from 0", "the first hour is 0", "account(0) -> 0; pass(1) -> 0; "
                + "account(0) -> 1");
        String week = "so that the hour of the week is the hour modulo 168";
        Edge.test("Time", week, "the last hour of a week is 167, then comes 0", """
                gate(5) -> 0; open(0, 0, 0, true) -> 1; gate(5) -> 1; open(1, 167, 167, true) -> 1; gateOf(0, 2) -> 1;
                gateOf(1, 2) -> 0; pass(1) -> 0; gateOf(0, 2) -> 0; pass(165) -> 0; gateOf(1, 2) -> 0; pass(1) -> 0;
                account(0) -> 167; gateOf(1, 2) -> 1; gateOf(0, 2) -> 0; pass(1) -> 0; gateOf(1, 2) -> 0;
                gateOf(0, 2) -> 1; gateOf(0, 5) -> 5; gateOf(1, 5) -> 5; pass(1) -> 0; gateOf(0, 5) -> 10;
                gateOf(0, 2) -> 0; pass(166) -> 0; account(0) -> 335; gateOf(1, 2) -> 1; gateOf(0, 2) -> 0;
                pass(1) -> 0; gateOf(0, 2) -> 1; gateOf(1, 5) -> 10
                """);
        Edge.test("Time", week, "the day 3 begins with the hour 72, and the day 6 ends with 167", """
                gate(1) -> 0; garden(0, 1, 1, 9) -> 0; garden(0, 1, 1, 9) -> 1; complain(0, 1) -> 1; pass(84) -> 0;
                account(5) -> 1; pass(1) -> 0; account(5) -> 0; complain(0, 1) -> 1; pass(82) -> 0; gateOf(0, 1) -> 5;
                pass(1) -> 0; gateOf(0, 1) -> 6; pass(84) -> 0; account(0) -> 252; account(5) -> 1; pass(1) -> 0;
                account(5) -> 0
                """);
        String night = "It is night in the hours of a day from 0 to 5";
        Edge.test("Time", night, "no thirst grows in the hours 0 and 5, it does in 6 and 23", """
                gate(1) -> 0; garden(0, 1, 1, 0) -> 0; pass(1) -> 0; gardenOf(0, 4) -> 0; pass(4) -> 0;
                gardenOf(0, 4) -> 0; pass(1) -> 0; gardenOf(0, 4) -> 0; pass(1) -> 0; gardenOf(0, 4) -> 1;
                pass(16) -> 0; gardenOf(0, 4) -> 17; pass(1) -> 0; gardenOf(0, 4) -> 18; pass(1) -> 0;
                gardenOf(0, 4) -> 18; pass(5) -> 0; gardenOf(0, 4) -> 18; pass(1) -> 0; account(0) -> 31;
                gardenOf(0, 4) -> 19
                """);
        Edge.test("Time", night, "thieves steal in the hours 0 and 5, not in 6 and 23", """
                gate(1) -> 0; garden(0, 1, 1, 0) -> 0; thief(0, true) -> false; pass(23) -> 0; gardenOf(0, 7) -> 0;
                pass(1) -> 0; gardenOf(0, 7) -> 0; gardenOf(0, 4) -> 18; pass(1) -> 0; gardenOf(0, 7) -> 3;
                gardenOf(0, 8) -> 24; pass(4) -> 0; gardenOf(0, 7) -> 15; pass(1) -> 0; gardenOf(0, 7) -> 18;
                gardenOf(0, 8) -> 29; pass(1) -> 0; gardenOf(0, 4) -> 1; gardenOf(0, 7) -> 18; gardenOf(0, 8) -> 29
                """);
        Edge.test("Time", night, "the night behind the last hour of a week is as any other", """
                gate(1) -> 0; pass(167) -> 0; garden(0, 2, 1, 0) -> 0; thief(0, true) -> false; pass(1) -> 0;
                gardenOf(0, 4) -> 2; gardenOf(0, 7) -> 0; pass(1) -> 0; gardenOf(0, 4) -> 0; gardenOf(0, 7) -> 2;
                gardenOf(0, 8) -> 168; pass(5) -> 0; gardenOf(0, 4) -> 0; account(0) -> 174; pass(1) -> 0;
                gardenOf(0, 4) -> 2
                """);
    }

    private static void ditch() {
        Edge.test("The ditch", "There are at most 6 gates along it", "the sixth can be, a seventh cannot",
                Edge.gates(6), """
                account(3) -> 6; gateOf(5, 0) -> 5; gateOf(6, 0) -> IOOBE; gate(5) -> UOE; account(3) -> 6
                """);
        Edge.test("The ditch", "numbered from 0 from the head downwards", "the gate 0 takes first", """
                inflow(11) -> 10; gate(6) -> 0; gate(7) -> 1; garden(0, 2, 1, 0) -> 0; open(0, 8, 8, true) -> 1;
                open(1, 8, 8, true) -> 1; pass(9) -> 6; gateOf(0, 5) -> 6; gateOf(0, 6) -> 0; gateOf(1, 5) -> 3
                """);
        Edge.test("The ditch", "from the gate k - 1 or from the head",
                "the first stretch, the last one, and none behind it", """
                inflow(20) -> 10; pass(1) -> 0; account(9) -> 0; gate(5) -> 0; pass(1) -> 0; account(9) -> 1;
                gate(5) -> 1; pass(1) -> 0; account(9) -> 3; gate(5) -> 2; gate(5) -> 3; gate(5) -> 4; gate(5) -> 5;
                pass(1) -> 0; account(9) -> 9
                """);
        Edge.test("The ditch", "it has a leak from 0 to 50, at first 5", "5 at first, 0 when repaired, 50 and no more",
                """
                gate(5) -> 0; gateOf(0, 1) -> 5; garden(0, 1, 1, 10) -> 0; repair(0) -> 0; gateOf(0, 1) -> 0;
                gate(5) -> 1; gateOf(1, 1) -> 5; 44 * pass(168) -> 0; gateOf(1, 1) -> 49; gateOf(0, 1) -> 44;
                pass(168) -> 0; gateOf(1, 1) -> 50; gateOf(0, 1) -> 45; pass(168) -> 0; gateOf(1, 1) -> 50;
                gateOf(0, 1) -> 46; gate(5) -> 2; gateOf(2, 1) -> 5; 4 * pass(168) -> 0; gateOf(0, 1) -> 50;
                pass(168) -> 0; gateOf(0, 1) -> 50; gateOf(1, 1) -> 50; gateOf(2, 1) -> 10
                """);
        Edge.test("The ditch", "in an hour, from 0 to 200", "0 and 200 come in, -1 and 201 cannot", """
                inflow(-1) -> IAE; inflow(201) -> IAE; inflow(0) -> 10; pass(3) -> 0; account(8) -> 0; inflow(200) -> 0;
                pass(1) -> 0; account(8) -> 200; pass(200) -> 0; account(8) -> 40200
                """);
        String behind = "Water that is left behind the last gate runs off";
        Edge.test("The ditch", behind, "all of it without a gate", "pass(1) -> 0; account(12) -> 10; account(9) -> 0");
        Edge.test("The ditch", behind, "all that did not leak by a gate that is shut",
                "gate(60) -> 0; pass(1) -> 0; account(12) -> 9; account(9) -> 1");
        Edge.test("The ditch", behind, "none if all is drunk, or all has leaked, or none came", """
                inflow(0) -> 10; gate(60) -> 0; garden(0, 1, 1, 0) -> 0; pass(9) -> 0; open(0, 9, 9, true) -> 1;
                account(12) -> 0; inflow(4) -> 0; pass(1) -> 3; account(12) -> 0; account(9) -> 1; inflow(1) -> 4;
                pass(1) -> 0; account(9) -> 2; account(12) -> 0; inflow(2) -> 1; pass(1) -> 0; account(12) -> 1
                """);
    }

    private static void gates() {
        String width = "A gate has a width from 1 to 60";
        Edge.test("Gates", width, "1 and 60 can be, 0 and 61 cannot", """
                gate(0) -> IAE; gate(61) -> IAE; gate(1) -> 0; gate(60) -> 1; gateOf(0, 0) -> 1; gateOf(1, 0) -> 60
                """);
        Edge.test("Gates", width, "at first it is open in no hour of the week", """
                gate(60) -> 0; gateOf(0, 3) -> 0; gateOf(0, 2) -> 0; nextOpen(0) -> NSEE; ahead(0, 200) -> 0;
                pass(168) -> 0; gateOf(0, 5) -> 0
                """);
        String takes = "as much water out of the ditch as its width, or all that there is";
        takes(takes, "one less than there is", 10, 8, 8);
        takes(takes, "as much as there is", 10, 9, 9);
        takes(takes, "one more than there is", 10, 10, 9);
        takes(takes, "the least width", 10, 1, 1);
        takes(takes, "the greatest width", 200, 60, 60);
        takes(takes, "there is just the greatest width", 64, 60, 60);
        takes(takes, "there is one less than the greatest width", 63, 60, 59);
        takes(takes, "all has leaked", 1, 60, 0);
        takes(takes, "nothing came in", 0, 60, 0);
        Edge.test("Gates", takes, "only in the hours in which it is open, the first and the last of them too", """
                gate(3) -> 0; open(0, 2, 4, true) -> 3; pass(2) -> 0; gateOf(0, 5) -> 0; pass(1) -> 0;
                gateOf(0, 5) -> 3; pass(1) -> 0; gateOf(0, 5) -> 6; pass(1) -> 0; gateOf(0, 5) -> 9; pass(1) -> 0;
                gateOf(0, 5) -> 9
                """);
    }

    /** The stretch leaks 5 percent, rounded up, ahead of the gate. */
    private static void takes(String words, String what, int inflow, int width, int due) {
        Edge.test("Gates", words, what, "inflow(" + inflow + ") -> 10; gate(" + width + ") -> 0;"
                + "open(0, 0, 0, true) -> 1; ahead(0, 1) -> " + due + "; pass(1) -> 0; gateOf(0, 5) -> " + due
                + "; gateOf(0, 6) -> " + due);
    }

    private static void gardens() {
        String most = "There are at most 12 gardens, numbered from 0";
        Edge.test("Gardens", most, "the twelfth can be, a thirteenth cannot", "gate(5) -> 0;", Edge.gardens(12), """
                account(4) -> 12; gardenOf(11, 1) -> 1; gardenOf(12, 1) -> IOOBE; garden(0, 1, 1, 9) -> UOE;
                account(4) -> 12
                """);
        Edge.test("Gardens", most, "1 and 20 beds can be, 0 and 21 cannot", """
                gate(5) -> 0; garden(0, 0, 1, 9) -> IAE; garden(0, 21, 1, 9) -> IAE; garden(0, 1, 1, 9) -> 0;
                garden(0, 20, 1, 9) -> 1; gardenOf(0, 1) -> 1; gardenOf(1, 1) -> 20
                """);
        Edge.test("Gardens", most, "1 and 9 shares can be, 0 and 10 cannot", """
                gate(5) -> 0; garden(0, 1, 0, 9) -> IAE; garden(0, 1, 10, 9) -> IAE; garden(0, 1, 1, 9) -> 0;
                garden(0, 1, 9, 9) -> 1; gardenOf(0, 2) -> 1; gardenOf(1, 2) -> 9
                """);
        Edge.test("Gardens", most, "a thirst is 0 at first and 99 at most", """
                gate(5) -> 0; garden(0, 11, 1, 9) -> 0; garden(0, 14, 1, 9) -> 1; gardenOf(0, 4) -> 0; pass(13) -> 0;
                gardenOf(0, 4) -> 77; gardenOf(1, 4) -> 98; pass(1) -> 0; gardenOf(1, 4) -> 99; gardenOf(0, 4) -> 88;
                pass(1) -> 0; gardenOf(1, 4) -> 99; gardenOf(0, 4) -> 99; pass(1) -> 0; gardenOf(0, 4) -> 99;
                garden(0, 1, 1, 9) -> 2; gardenOf(2, 4) -> 0
                """);
        Edge.test("Gardens", most, "a garden can be at the first gate and at the last one", Edge.gates(6), """
                garden(0, 1, 1, 0) -> 0; garden(5, 1, 1, 0) -> 1; garden(6, 1, 1, 0) -> IOOBE;
                garden(-1, 1, 1, 0) -> IOOBE; gardenOf(0, 0) -> 0; gardenOf(1, 0) -> 5
                """);
    }

    private static void drinks() {
        String drinks = "it drinks at most 3 times its beds, each time anew, and never more than its thirst";
        Edge.test("Gardens", drinks, "watered with a thirst below 3 times its beds, as much, and above", """
                inflow(200) -> 10; gate(60) -> 0; garden(0, 2, 1, 0) -> 0; pass(7) -> 0; gardenOf(0, 4) -> 2;
                save() -> 1; open(0, 7, 7, true) -> 1; pass(1) -> 4; gardenOf(0, 4) -> 0; restore() -> 1;
                open(0, 8, 8, true) -> 1; pass(2) -> 6; gardenOf(0, 4) -> 0; restore() -> 1; open(0, 9, 9, true) -> 1;
                pass(3) -> 6; gardenOf(0, 4) -> 2
                """);
        Edge.test("Gardens", drinks, "stealing with a thirst below 3 times its beds, as much, and above", """
                gate(1) -> 0; pass(20) -> 0; garden(0, 2, 1, 0) -> 0; garden(0, 2, 1, 0) -> 1; pass(1) -> 0;
                garden(0, 2, 1, 0) -> 2; pass(1) -> 0; garden(0, 2, 1, 0) -> 3; inflow(200) -> 10;
                thief(0, true) -> false; thief(2, true) -> false; thief(3, true) -> false; pass(2) -> 0;
                gardenOf(0, 4) -> 8; gardenOf(2, 4) -> 6; gardenOf(3, 4) -> 4; pass(1) -> 0; gardenOf(0, 7) -> 6;
                gardenOf(0, 4) -> 2; gardenOf(2, 7) -> 6; gardenOf(2, 4) -> 0; gardenOf(3, 7) -> 4; gardenOf(3, 4) -> 0;
                gardenOf(1, 4) -> 8; gardenOf(1, 7) -> 0
                """);
        Edge.test("Gardens", drinks, "watered and stealing in one hour, and again in the next", """
                inflow(200) -> 10; gate(60) -> 0; garden(0, 1, 1, 0) -> 0; thief(0, true) -> false; pass(24) -> 0;
                open(0, 24, 25, true) -> 2; gardenOf(0, 4) -> 18; pass(1) -> 3; gardenOf(0, 4) -> 12;
                gardenOf(0, 6) -> 3; gardenOf(0, 7) -> 3; pass(1) -> 3; gardenOf(0, 4) -> 6; gardenOf(0, 6) -> 6;
                gardenOf(0, 7) -> 6
                """);
        Edge.test("Gardens", drinks, "20 beds drink 60 and no more", """
                inflow(200) -> 10; gate(60) -> 0; garden(0, 20, 1, 0) -> 0; open(0, 10, 11, true) -> 2; pass(10) -> 0;
                gardenOf(0, 4) -> 80; pass(1) -> 60; gardenOf(0, 4) -> 39; pass(1) -> 59; gardenOf(0, 4) -> 0
                """);
        Edge.test("Gardens", drinks, "nothing with a thirst of 0", """
                inflow(200) -> 10; gate(60) -> 0; garden(0, 20, 1, 0) -> 0; thief(0, true) -> false;
                open(0, 0, 5, true) -> 6; pass(6) -> 0; gateOf(0, 6) -> 360; gardenOf(0, 6) -> 0; gardenOf(0, 7) -> 0
                """);
    }

    private static void complaints() {
        String most = "At most 8 complaints wait, in the order in which they came";
        String seven = "gate(5) -> 0;" + Edge.gardens(4) + """
                complain(3, 0) -> 1; complain(0, 3) -> 2; complain(0, 1) -> 3; complain(2, 1) -> 4; complain(1, 2) -> 5;
                complain(1, 0) -> 6; complain(3, 2) -> 7;
                """;
        Edge.test("Complaints", most, "the eighth can wait, a ninth cannot", seven, """
                complain(2, 0) -> 8; account(5) -> 8; complain(0, 2) -> UOE; refusal(false) -> 1; refusal(true) -> 8;
                account(5) -> 8
                """);
        Edge.test("Complaints", most, "the first one is ahead, the last one is behind", seven, """
                complain(2, 0) -> 8; complaint(0, false) -> 3; complaint(0, true) -> 0; complaint(6, false) -> 3;
                complaint(6, true) -> 2; complaint(7, false) -> 2; complaint(7, true) -> 0; complaint(8, false) -> NSEE
                """);
        Edge.test("Complaints", most, "8 more can wait when 8 were heard", seven, """
                complain(2, 0) -> 8; pass(85) -> 0; account(5) -> 0; account(13) -> 8; complain(3, 0) -> 1;
                complain(0, 3) -> 2; complain(0, 1) -> 3; complain(2, 1) -> 4; complain(1, 2) -> 5; complain(1, 0) -> 6;
                complain(3, 2) -> 7; complain(2, 0) -> 8; complain(0, 2) -> UOE
                """);
        Edge.test("Complaints", most, "one garden against another one, and that one against it", """
                gate(5) -> 0; garden(0, 1, 1, 0) -> 0; garden(0, 1, 1, 0) -> 1; complain(0, 0) -> IAE;
                complain(1, 1) -> IAE; complain(0, 1) -> 1; complain(1, 0) -> 2; complain(0, 1) -> UOE;
                refusal(true) -> 0; complain(1, 0) -> UOE; refusal(true) -> 1
                """);
        Edge.test("Complaints", "The fine is from 1 to 30, 5 at first", "1 and 30 can be, 0 and 31 cannot", """
                account(2) -> 5; fine(0) -> IAE; fine(31) -> IAE; account(2) -> 5; fine(1) -> 5; fine(30) -> 1;
                account(2) -> 30
                """);
    }
}
