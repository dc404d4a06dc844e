/** Edges of an hour: growth, leaks, watering, thieves, hearings, and leaks that grow. */
final class HourEdges {
    private static final String HOUR = "An hour goes by like this";
    /** The garden 1 steals 6 in each hour of the night from the hour 24 on. */
    private static final String THIEF = "gate(1) -> 0; garden(0, 1, 1, 20) -> 0; garden(0, 2, 1, 20) -> 1;"
            + "garden(0, 1, 1, 20) -> 2; thief(1, true) -> false;";

    private HourEdges() {
    }

    static void run() {
        growth();
        leaks();
        leaksDownwards();
        takesAndWaters();
        endOfHour();
        orderOfWatering();
        drinking();
        runsBack();
        thieves();
        thefts();
        hearings();
        window();
        fines();
        notGuilty();
        leaksGrow();
    }

    private static void growth() {
        String first = "First, the thirst of each garden becomes more by its beds if it is not night";
        Edge.test(HOUR, first, "98, then 99 and no more", """
                gate(1) -> 0; garden(0, 14, 1, 0) -> 0; garden(0, 9, 1, 0) -> 1; garden(0, 20, 1, 0) -> 2;
                pass(10) -> 0; gardenOf(2, 4) -> 80; pass(1) -> 0; gardenOf(2, 4) -> 99; pass(2) -> 0;
                gardenOf(0, 4) -> 98; gardenOf(1, 4) -> 63; pass(1) -> 0; gardenOf(0, 4) -> 99; pass(3) -> 0;
                gardenOf(1, 4) -> 99; pass(1) -> 0; gardenOf(1, 4) -> 99; gardenOf(0, 4) -> 99; gardenOf(2, 4) -> 99
                """);
        Edge.test(HOUR, first, "each garden, from the first to the twelfth, at the first gate and at the last",
                Edge.gates(6),
                Edge.gardens(11), """
                garden(5, 20, 1, 0) -> 11; pass(6) -> 0; account(16) -> 0; pass(1) -> 0; gardenOf(0, 4) -> 1;
                gardenOf(10, 4) -> 1; gardenOf(11, 4) -> 20; account(16) -> 31
                """);
        Edge.test(HOUR, "Second, the inflow comes to the head",
                "none with the inflow 0, and as much as it is in each hour", """
                inflow(0) -> 10; pass(200) -> 0; account(8) -> 0; account(12) -> 0; inflow(1) -> 0; pass(1) -> 0;
                account(8) -> 1; inflow(200) -> 1; pass(2) -> 0; account(8) -> 401
                """);
    }

    private static void leaks() {
        String third = "as much leaks in the stretch ahead of the gate as its leak tells in percent of it, rounded up";
        String five = "gate(60) -> 0; inflow(0) -> 10;";
        String none = five + "garden(0, 1, 1, 10) -> 0; repair(0) -> 0;";
        leak(third, 5, five, 0, 0);
        leak(third, 5, five, 1, 1);
        leak(third, 5, five, 19, 1);
        leak(third, 5, five, 20, 1);
        leak(third, 5, five, 21, 2);
        leak(third, 5, five, 40, 2);
        leak(third, 5, five, 41, 3);
        leak(third, 5, five, 180, 9);
        leak(third, 5, five, 181, 10);
        leak(third, 5, five, 199, 10);
        leak(third, 5, five, 200, 10);
        leak(third, 0, none, 1, 0);
        leak(third, 0, none, 200, 0);
        leak(third, 1, none + "pass(168) -> 0;", 1, 1);
        leak(third, 1, none + "pass(168) -> 0;", 99, 1);
        leak(third, 1, none + "pass(168) -> 0;", 100, 1);
        leak(third, 1, none + "pass(168) -> 0;", 101, 2);
        leak(third, 1, none + "pass(168) -> 0;", 200, 2);
        leak(third, 50, five + "45 * pass(168) -> 0;", 1, 1);
        leak(third, 50, five + "45 * pass(168) -> 0;", 2, 1);
        leak(third, 50, five + "45 * pass(168) -> 0;", 3, 2);
        leak(third, 50, five + "45 * pass(168) -> 0;", 199, 100);
        leak(third, 50, five + "45 * pass(168) -> 0;", 200, 100);
    }

    private static void leak(String words, int leak, String setUp, int water, int due) {
        Edge.test(HOUR, words, "of " + water + " leak " + due + " at " + leak + " percent", setUp,
                "gateOf(0, 1) -> " + leak + "; inflow(" + water + ") -> 0; pass(1) -> 0; account(9) -> " + due
                + "; account(12) -> " + (water - due));
    }

    private static void leaksDownwards() {
        String third = "the gates are gone through downwards";
        Edge.test(HOUR, third, "the second stretch leaks of what the first one left", """
                inflow(21) -> 10; gate(5) -> 0; gate(5) -> 1; pass(1) -> 0; account(9) -> 3; inflow(22) -> 21;
                pass(1) -> 0; account(9) -> 6; inflow(23) -> 22; pass(1) -> 0; account(9) -> 10
                """);
        Edge.test(HOUR, third, "and of what ran back, not of what was drunk", """
                inflow(0) -> 10; gate(60) -> 0; gate(5) -> 1; garden(0, 1, 1, 0) -> 0; pass(7) -> 0; inflow(23) -> 0;
                open(0, 8, 9, true) -> 2; pass(1) -> 0; account(9) -> 4; pass(1) -> 3; account(9) -> 7; pass(1) -> 1;
                account(9) -> 10
                """);
        Edge.test(HOUR, third, "water can end ahead of the last gate", """
                inflow(3) -> 10; gate(5) -> 0; gate(5) -> 1; gate(5) -> 2; gate(5) -> 3; gate(5) -> 4; gate(5) -> 5;
                open(2, 0, 0, true) -> 1; open(3, 0, 0, true) -> 1; open(5, 0, 0, true) -> 1; open(1, 0, 0, true) -> 1;
                pass(1) -> 0; account(9) -> 3; gateOf(1, 5) -> 1; gateOf(2, 5) -> 0; gateOf(5, 5) -> 0; account(12) -> 0
                """);
    }

    private static void takesAndWaters() {
        Edge.test(HOUR, "then the gate takes water if it is open",
                "in its hour of the week, not ahead of it nor behind it", """
                gate(4) -> 0; open(0, 167, 167, true) -> 1; pass(167) -> 0; gateOf(0, 5) -> 0; pass(1) -> 0;
                gateOf(0, 5) -> 4; pass(1) -> 0; gateOf(0, 5) -> 4; pass(166) -> 0; gateOf(0, 5) -> 4; pass(1) -> 0;
                gateOf(0, 5) -> 8
                """);
        Edge.test(HOUR, "then its gardens are watered", "those of this gate alone", """
                inflow(200) -> 10; gate(60) -> 0; gate(60) -> 1; garden(1, 1, 9, 0) -> 0; garden(0, 1, 1, 0) -> 1;
                open(0, 8, 8, true) -> 1; pass(9) -> 3; gardenOf(1, 6) -> 3; gardenOf(0, 6) -> 0; gardenOf(0, 4) -> 3
                """);
        Edge.test(HOUR, "then its gardens are watered", "by none, if the gate took nothing", """
                inflow(1) -> 10; gate(60) -> 0; garden(0, 1, 1, 0) -> 0; open(0, 0, 167, true) -> 168; pass(200) -> 0;
                gardenOf(0, 4) -> 99; gardenOf(0, 6) -> 0; gateOf(0, 5) -> 0
                """);
    }

    private static void endOfHour() {
        Edge.test(HOUR, "Fourth, if it is night, each thief steals", "behind the gates, ahead of what runs off", """
                inflow(14) -> 10; gate(6) -> 0; garden(0, 2, 1, 0) -> 0; garden(0, 2, 1, 0) -> 1;
                thief(1, true) -> false; pass(24) -> 0; account(12) -> 312; open(0, 24, 24, true) -> 1; pass(1) -> 6;
                gardenOf(0, 6) -> 6; gardenOf(1, 7) -> 6; account(12) -> 313
                """);
        Edge.test(HOUR, "Fifth, what is left in the ditch runs off", "what no gate kept and no thief stole", """
                pass(1) -> 0; account(12) -> 10; gate(60) -> 0; open(0, 0, 167, true) -> 168; pass(1) -> 0;
                account(12) -> 19; inflow(0) -> 10; pass(1) -> 0; account(12) -> 19
                """);
        String sixth = "Sixth, if it is the hour 12 of the day 3 of the week, the complaints are heard";
        Edge.test(HOUR, sixth, "not in the hours 12, 36, 60, 72 and 83, but in 84", THIEF, """
                complain(0, 2) -> 1; pass(13) -> 0; account(5) -> 1; pass(24) -> 0; account(5) -> 1; pass(24) -> 0;
                account(5) -> 1; pass(12) -> 0; account(0) -> 73; account(5) -> 1; pass(11) -> 0; account(5) -> 1;
                account(13) -> 0; pass(1) -> 0; account(0) -> 85; account(5) -> 0; account(13) -> 1
                """);
        Edge.test(HOUR, sixth, "those of the hour 84 are heard in it, those of 85 in 252", THIEF, """
                pass(84) -> 0; complain(0, 2) -> 1; pass(1) -> 0; account(13) -> 1; complain(0, 2) -> 1; pass(24) -> 0;
                account(5) -> 1; pass(143) -> 0; account(0) -> 252; account(5) -> 1; pass(1) -> 0; account(5) -> 0;
                account(13) -> 2
                """);
        Edge.test(HOUR, "At last the hour becomes 1 more", "1 and 200 of them", """
                pass(1) -> 0; account(0) -> 1; pass(200) -> 0; account(0) -> 201
                """);
    }

    private static void orderOfWatering() {
        String order = "of several the one with more shares, then the one with the lowest number";
        String ditch = "inflow(100) -> 10; gate(3) -> 0; open(0, 8, 8, true) -> 1;";
        Edge.test("Watering", order, "1 more of thirst comes ahead of 8 more shares and of a lower number", ditch, """
                garden(0, 1, 9, 0) -> 0; garden(0, 1, 1, 0) -> 1; open(0, 7, 7, true) -> 2; pass(8) -> 3;
                gardenOf(0, 6) -> 2; gardenOf(1, 6) -> 1; gardenOf(1, 4) -> 1; pass(1) -> 3; gardenOf(1, 6) -> 3;
                gardenOf(0, 6) -> 3; gardenOf(0, 4) -> 0; gardenOf(1, 4) -> 0
                """);
        Edge.test("Watering", order, "the greater thirst drinks all that there is", ditch, """
                garden(0, 4, 9, 0) -> 0; garden(0, 5, 1, 0) -> 1; pass(9) -> 3; gardenOf(1, 6) -> 3; gardenOf(0, 6) -> 0
                """);
        Edge.test("Watering", order, "of the same thirst 1 more share comes ahead of a lower number", ditch, """
                garden(0, 1, 1, 0) -> 0; garden(0, 1, 2, 0) -> 1; pass(9) -> 3; gardenOf(1, 6) -> 3; gardenOf(0, 6) -> 0
                """);
        Edge.test("Watering", order, "of the same thirst and shares the lowest number", ditch, """
                garden(0, 1, 2, 0) -> 0; garden(0, 1, 2, 0) -> 1; garden(0, 1, 2, 0) -> 2; pass(9) -> 3;
                gardenOf(0, 6) -> 3; gardenOf(1, 6) -> 0; gardenOf(2, 6) -> 0
                """);
        Edge.test("Watering", order, "thirsts of 99 are the same, whatever the beds", """
                inflow(100) -> 10; gate(3) -> 0; garden(0, 19, 3, 0) -> 0; garden(0, 20, 3, 0) -> 1;
                garden(0, 18, 4, 0) -> 2; open(0, 23, 23, true) -> 1; pass(23) -> 0; gardenOf(0, 4) -> 99;
                gardenOf(1, 4) -> 99; gardenOf(2, 4) -> 99; pass(1) -> 3; gardenOf(2, 6) -> 3;
                open(0, 24, 24, true) -> 2; pass(1) -> 3; gardenOf(0, 6) -> 3; gardenOf(1, 6) -> 0
                """);
    }

    private static void drinking() {
        String drinks = "Each one drinks as much as it may and there is";
        String ditch = "inflow(100) -> 10;";
        String gardens = "open(0, 8, 8, true) -> 1; garden(0, 1, 1, 0) -> 0; garden(0, 1, 2, 0) -> 1; pass(8) -> 0;";
        Edge.test("Watering", drinks, "one less than the first may", ditch, "gate(2) -> 0;", gardens, """
                pass(1) -> 2; gardenOf(1, 6) -> 2; gardenOf(1, 4) -> 1; gardenOf(0, 6) -> 0; gardenOf(0, 4) -> 3;
                gateOf(0, 6) -> 0
                """);
        Edge.test("Watering", drinks, "as much as the first may", ditch, "gate(3) -> 0;", gardens, """
                pass(1) -> 3; gardenOf(1, 6) -> 3; gardenOf(1, 4) -> 0; gardenOf(0, 6) -> 0; gateOf(0, 6) -> 0
                """);
        Edge.test("Watering", drinks, "one more than the first may", ditch, "gate(4) -> 0;", gardens, """
                pass(1) -> 4; gardenOf(1, 6) -> 3; gardenOf(0, 6) -> 1; gardenOf(0, 4) -> 2; gateOf(0, 6) -> 0
                """);
        Edge.test("Watering", drinks, "one less than all may", ditch, "gate(5) -> 0;", gardens, """
                pass(1) -> 5; gardenOf(1, 6) -> 3; gardenOf(0, 6) -> 2; gateOf(0, 6) -> 0
                """);
    }

    private static void runsBack() {
        String gardens = "inflow(100) -> 10; open(0, 8, 8, true) -> 1; garden(0, 1, 1, 0) -> 0; "
                + "garden(0, 1, 2, 0) -> 1; pass(8) -> 0;";
        Edge.test("Watering", "What is left then is at the gate", "nothing, if all is drunk", "gate(6) -> 0;", gardens,
                """
                pass(1) -> 6; gateOf(0, 5) -> 6; gateOf(0, 6) -> 0; account(16) -> 0
                """);
        Edge.test("Watering", "What is left then is at the gate", "1, if there was 1 more", "gate(7) -> 0;", gardens,
                """
                pass(1) -> 6; gateOf(0, 5) -> 7; gateOf(0, 6) -> 1; account(16) -> 0
                """);
        Edge.test("Watering", "What is left then is at the gate", "all, if the gate has no garden, or none thirsts", """
                inflow(20) -> 10; gate(7) -> 0; open(0, 0, 1, true) -> 2; pass(1) -> 0; gateOf(0, 6) -> 7;
                garden(0, 1, 1, 0) -> 0; pass(1) -> 0; gateOf(0, 6) -> 14; gateOf(0, 5) -> 14
                """);
        Edge.test("Watering", "it runs back into the ditch below the gate",
                "it is there for the next gate, and for thieves", """
                inflow(12) -> 10; gate(60) -> 0; gate(60) -> 1; garden(1, 2, 1, 0) -> 0; open(0, 0, 167, true) -> 168;
                open(1, 9, 9, true) -> 1; pass(9) -> 0; gateOf(0, 5) -> 99; gateOf(0, 6) -> 99; pass(1) -> 6;
                gateOf(1, 5) -> 10; gateOf(1, 6) -> 4; gateOf(0, 6) -> 110; thief(0, true) -> false; pass(14) -> 0;
                pass(1) -> 0; gardenOf(0, 7) -> 6
                """);
    }

    private static void thieves() {
        Edge.test("Thieves", "A garden can be a thief or not", "at first it is none, and none steals that is none", """
                gate(1) -> 0; garden(0, 1, 1, 0) -> 0; gardenOf(0, 5) -> 0; pass(200) -> 0; gardenOf(0, 7) -> 0;
                gardenOf(0, 8) -> -1; thief(0, true) -> false; gardenOf(0, 5) -> 1; thief(0, false) -> true;
                gardenOf(0, 5) -> 0
                """);
        steals("nothing is there for the first", 1, 0, 0, -1, -1);
        steals("one less than the first may", 6, 5, 0, 24, -1);
        steals("as much as the first may", 7, 6, 0, 24, -1);
        steals("one more than the first may", 8, 6, 1, 24, 24);
        steals("one less than both may", 12, 6, 5, 24, 24);
        steals("as much as both may", 13, 6, 6, 24, 24);
        steals("one more than both may", 14, 6, 6, 24, 24);
        String watered = "whether it was watered in this hour or not";
        Edge.test("Thieves", watered, "a gate took 5 of the 9, the rest is stolen", """
                gate(5) -> 0; garden(0, 20, 1, 0) -> 0; thief(0, true) -> false; pass(24) -> 0;
                open(0, 24, 24, true) -> 1; pass(1) -> 5; gardenOf(0, 6) -> 5; gardenOf(0, 7) -> 4;
                gardenOf(0, 4) -> 90; account(12) -> 216
                """);
        Edge.test("Thieves", watered, "its gate is at the head, the water behind the last gate", """
                gate(5) -> 0; gate(5) -> 1; garden(0, 1, 1, 0) -> 0; thief(0, true) -> false; pass(24) -> 0;
                pass(1) -> 0; gardenOf(0, 7) -> 3; account(12) -> 197; account(9) -> 50
                """);
    }

    /** Of the inflow 1 leaks ahead of the gate. */
    private static void steals(String what, int inflow, int first, int second, int hourOfFirst, int hourOfSecond) {
        Edge.test("Thieves", "or all that there is, if that is less", what, """
                gate(1) -> 0; garden(0, 2, 1, 0) -> 0; garden(0, 2, 9, 0) -> 1; thief(1, true) -> false;
                thief(0, true) -> false; inflow(0) -> 10; pass(24) -> 0; account(16) -> 72;
                """, "inflow(" + inflow + ") -> 0; pass(1) -> 0; gardenOf(0, 7) -> " + first + "; gardenOf(1, 7) -> " + second
                + "; gardenOf(0, 4) -> " + (36 - first) + "; gardenOf(1, 4) -> " + (36 - second)
                + "; gardenOf(0, 8) -> "
                + hourOfFirst + "; gardenOf(1, 8) -> " + hourOfSecond + "; account(11) -> " + (first + second)
                + "; account(12) -> " + (inflow - 1 - first - second));
    }

    private static void thefts() {
        Edge.test("Thieves", "The latest hour in which a garden stole something is noted",
                "none, the first one, the latest", """
                gate(1) -> 0; garden(0, 1, 1, 0) -> 0; thief(0, true) -> false; pass(24) -> 0; gardenOf(0, 8) -> -1;
                pass(1) -> 0; gardenOf(0, 8) -> 24; pass(1) -> 0; gardenOf(0, 8) -> 25; thief(0, false) -> true;
                pass(22) -> 0; gardenOf(0, 8) -> 25; thief(0, true) -> false; pass(1) -> 0; gardenOf(0, 8) -> 48;
                pass(5) -> 0; gardenOf(0, 8) -> 53; pass(18) -> 0; gardenOf(0, 8) -> 53
                """);
    }

    private static void hearings() {
        String order = "Complaints are heard in their order";
        Edge.test("Hearing", order, "the first gets half of 5, the second half of the 2 that are left", """
                gate(1) -> 0; garden(0, 1, 1, 20) -> 0; garden(0, 2, 1, 7) -> 1; garden(0, 1, 1, 20) -> 2;
                thief(1, true) -> false; complain(2, 1) -> 1; complain(0, 1) -> 2; pass(85) -> 0; gardenOf(2, 3) -> 22;
                gardenOf(0, 3) -> 21; gardenOf(1, 3) -> 0; account(6) -> 4
                """);
        Edge.test("Hearing", order, "a coin that comes first can be paid, one that comes later cannot", """
                gate(1) -> 0; garden(0, 1, 1, 0) -> 0; garden(0, 2, 1, 20) -> 1; garden(0, 1, 1, 0) -> 2;
                thief(1, true) -> false; complain(0, 1) -> 1; complain(0, 2) -> 2; complain(2, 0) -> 3;
                complain(2, 1) -> 4; pass(85) -> 0; gardenOf(0, 3) -> 1; gardenOf(2, 3) -> 2; gardenOf(1, 3) -> 10;
                account(6) -> 7
                """);
        String gone = "All complaints are gone then";
        Edge.test("Hearing", gone, "one, none, and the same one anew", THIEF, """
                complain(0, 1) -> 1; pass(85) -> 0; account(5) -> 0; complaint(0, false) -> NSEE; account(13) -> 1;
                pass(168) -> 0; account(5) -> 0; account(13) -> 1; complain(0, 1) -> 1; account(5) -> 1
                """);
        Edge.test("Hearing", gone, "all eight", "gate(5) -> 0;", Edge.gardens(9), """
                complain(0, 1) -> 1; complain(0, 2) -> 2; complain(0, 3) -> 3; complain(0, 4) -> 4; complain(0, 5) -> 5;
                complain(0, 6) -> 6; complain(0, 7) -> 7; complain(0, 8) -> 8; pass(85) -> 0; account(5) -> 0;
                account(13) -> 8; account(14) -> 0; gardenOf(0, 3) -> 1; account(6) -> 8
                """);
    }

    private static void window() {
        String guilty = "if it stole something in one of the 168 hours ahead of this one or in this one";
        Edge.test("Hearing", guilty, "the theft of the last night ahead of the hearing", """
                gate(1) -> 0; garden(0, 1, 1, 20) -> 0; garden(0, 2, 1, 20) -> 1; pass(77) -> 0;
                thief(1, true) -> false; complain(0, 1) -> 1; pass(1) -> 0; thief(1, false) -> true;
                gardenOf(1, 8) -> 77; pass(7) -> 0; account(14) -> 1
                """);
        Edge.test("Hearing", guilty, "the first night hour in the 168 is 156 hours ahead", """
                gate(1) -> 0; garden(0, 1, 1, 20) -> 0; garden(0, 2, 1, 20) -> 1; pass(96) -> 0;
                thief(1, true) -> false; complain(0, 1) -> 1; pass(1) -> 0; thief(1, false) -> true;
                gardenOf(1, 8) -> 96; pass(155) -> 0; account(0) -> 252; account(13) -> 0; pass(1) -> 0;
                account(13) -> 1; account(14) -> 1; gardenOf(0, 3) -> 22
                """);
        Edge.test("Hearing", guilty, "the last night hour ahead of them is 175 hours ahead", """
                gate(1) -> 0; garden(0, 1, 1, 20) -> 0; garden(0, 2, 1, 20) -> 1; pass(77) -> 0;
                thief(1, true) -> false; pass(1) -> 0; thief(1, false) -> true; gardenOf(1, 8) -> 77; pass(7) -> 0;
                complain(0, 1) -> 1; pass(168) -> 0; account(13) -> 1; account(14) -> 0; gardenOf(0, 3) -> 19;
                gardenOf(1, 3) -> 20
                """);
        Edge.test("Hearing", guilty, "no theft in the first 168 hours, whatever the hour -1 may be", """
                gate(1) -> 0; garden(0, 1, 1, 20) -> 0; garden(0, 2, 1, 20) -> 1; complain(0, 1) -> 1; pass(85) -> 0;
                account(13) -> 1; account(14) -> 0; gardenOf(0, 3) -> 19
                """);
        Edge.test("Hearing", guilty, "a garden that steals no more is guilty, a thief that could steal nothing is not",
                """
                gate(1) -> 0; garden(0, 1, 1, 20) -> 0; garden(0, 2, 1, 20) -> 1; garden(0, 2, 1, 20) -> 2;
                thief(1, true) -> false; pass(30) -> 0; thief(1, false) -> true; inflow(1) -> 10;
                thief(2, true) -> false; complain(0, 1) -> 1; complain(0, 2) -> 2; pass(55) -> 0; account(13) -> 2;
                account(14) -> 1; gardenOf(1, 3) -> 15; gardenOf(2, 3) -> 20; gardenOf(2, 5) -> 1; gardenOf(0, 3) -> 21
                """);
    }

    private static void fines() {
        fined(5, 6, 5, 2);
        fined(5, 5, 5, 2);
        fined(5, 4, 4, 2);
        fined(5, 1, 1, 0);
        fined(5, 0, 0, 0);
        fined(1, 99, 1, 0);
        fined(2, 99, 2, 1);
        fined(29, 30, 29, 14);
        fined(30, 31, 30, 15);
        fined(30, 30, 30, 15);
        fined(30, 29, 29, 14);
        Edge.test("Hearing", "and it is no thief any more", "it steals nothing in the next night", THIEF, """
                complain(0, 1) -> 1; pass(84) -> 0; gardenOf(1, 5) -> 1; pass(1) -> 0; gardenOf(1, 5) -> 0;
                gardenOf(1, 7) -> 108; pass(24) -> 0; gardenOf(1, 7) -> 108; gardenOf(1, 8) -> 77
                """);
        Edge.test("Hearing", "and it is no thief any more", "also without a coin, and it can be one anew", """
                gate(1) -> 0; garden(0, 1, 1, 0) -> 0; garden(0, 2, 1, 0) -> 1; thief(1, true) -> false;
                complain(0, 1) -> 1; pass(85) -> 0; thief(1, true) -> false; pass(12) -> 0; gardenOf(1, 8) -> 96
                """);
    }

    private static void fined(int fine, int coins, int paid, int half) {
        Edge.test("Hearing", "then it pays the fine, or all its coins, if these are fewer", "the fine " + fine + " of "
                + coins + " coins",
                "gate(1) -> 0; garden(0, 1, 1, 20) -> 0; garden(0, 2, 1, " + coins
                + ") -> 1; thief(1, true) -> false; fine("
                + fine + ") -> 5; complain(0, 1) -> 1; pass(85) -> 0; account(14) -> 1; gardenOf(1, 3) -> "
                + (coins - paid)
                + "; gardenOf(0, 3) -> " + (20 + half) + "; account(6) -> " + (paid - half)
                + "; gardenOf(1, 5) -> 0; account(7) -> "
                + (20 + coins - paid + half));
    }

    private static void notGuilty() {
        for (int coins = 0; coins <= 2; coins++) {
            int paid = coins > 0 ? 1 : 0;
            Edge.test("Hearing", "pays 1 coin to the chest, if it has one", "it has " + coins,
                    "gate(1) -> 0; garden(0, 1, 1, " + coins + ") -> 0; garden(0, 2, 1, 20) -> 1; complain(0, 1) -> 1;"
                    + "fine(30) -> 5; pass(85) -> 0; account(13) -> 1; account(14) -> 0; gardenOf(0, 3) -> "
                    + (coins - paid)
                    + "; account(6) -> " + paid + "; gardenOf(1, 3) -> 20");
        }
        Edge.test("Hearing", "pays 1 coin to the chest, if it has one",
                "a coin for the first complaint, none for the second", """
                gate(1) -> 0; garden(0, 1, 1, 1) -> 0; garden(0, 2, 1, 20) -> 1; garden(0, 2, 1, 20) -> 2;
                complain(0, 1) -> 1; complain(0, 2) -> 2; pass(85) -> 0; gardenOf(0, 3) -> 0; account(6) -> 1;
                account(13) -> 2
                """);
    }

    private static void leaksGrow() {
        String grow = "the leak of each stretch becomes 1 more, but not more than 50";
        Edge.test("Leaks grow", grow, "not in 166, nor in 168, but in 167 and 335", """
                gate(1) -> 0; gate(1) -> 1; pass(166) -> 0; gateOf(0, 1) -> 5; pass(1) -> 0; gateOf(0, 1) -> 5;
                pass(1) -> 0; gateOf(0, 1) -> 6; gateOf(1, 1) -> 6; pass(1) -> 0; gateOf(0, 1) -> 6; pass(166) -> 0;
                gateOf(0, 1) -> 6; pass(1) -> 0; account(0) -> 336; gateOf(0, 1) -> 7; gateOf(1, 1) -> 7
                """);
        Edge.test("Leaks grow", grow, "the hour 167 itself leaks as the hour ahead of it", """
                inflow(0) -> 10; gate(1) -> 0; pass(166) -> 0; inflow(100) -> 0; pass(1) -> 0; account(9) -> 5;
                pass(1) -> 0; account(9) -> 10; pass(1) -> 0; account(9) -> 16
                """);
        Edge.test("Leaks grow", grow, "from 0 to 1, and of the last of six stretches too", Edge.gates(6), """
                garden(0, 1, 1, 50) -> 0; repair(0) -> 0; pass(168) -> 0; gateOf(0, 1) -> 1; gateOf(5, 1) -> 6
                """);
        Edge.test("Leaks grow", grow, "from 49 to 50, and there it stays", """
                gate(1) -> 0; 44 * pass(168) -> 0; gateOf(0, 1) -> 49; pass(167) -> 0; gateOf(0, 1) -> 49; pass(1) -> 0;
                gateOf(0, 1) -> 50; pass(168) -> 0; gateOf(0, 1) -> 50; gate(1) -> 1; pass(168) -> 0; gateOf(1, 1) -> 6
                """);
    }
}
