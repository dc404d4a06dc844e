/** Promises 1 to 11: a new object, and the changes of ditch, gates and gardens. */
final class DitchTest {
    private static final String IAE = "-> throws IllegalArgumentException;";
    private static final String IOOBE = "-> throws IndexOutOfBoundsException;";
    private static final String UOE = "-> throws UnsupportedOperationException;";
    private static final String NSEE = "-> throws NoSuchElementException;";

    private DitchTest() {
    }

    public static void main(String[] args) {
        newObject();
        inflow();
        fine();
        gate();
        garden();
        open();
        pay();
        thief();
        complain();
        repair();
        repairRefused();
        passAndWater();
        passAndLeak();
        passAndSteal();
        passAndHear();
        fullDitch();
        madeAnew();
        Script.close("DitchTest");
    }

    private static void newObject() {
        Script.run("1 a new object",
                "account(0) -> 0; account(1) -> 10; account(2) -> 5; account(3) -> 0; account(4) -> 0;",
                "account(5) -> 0; account(6) -> 0; account(7) -> 0; account(8) -> 0; account(9) -> 0;",
                "account(10) -> 0; account(11) -> 0; account(12) -> 0; account(13) -> 0; account(14) -> 0;",
                "account(15) -> 0; account(16) -> 0; account(17) -> 0; account(18) -> 0;",
                "errorPosition() -> -1; isWell() -> true; refusal(true)", NSEE, "refusal(false)", NSEE,
                "gateOf(0, 0)", IOOBE, "gardenOf(0, 0)", IOOBE, "complaint(0, true)", NSEE,
                "undo() -> throws IllegalStateException");
    }

    private static void inflow() {
        Script.run("2 inflow",
                "inflow(0) -> 10; inflow(200) -> 0; inflow(201)", IAE, "inflow(-1)", IAE,
                "inflow(2147483647)", IAE, "inflow(-2147483648)", IAE,
                "account(1) -> 200; account(18) -> 2; inflow(200) -> 200; account(18) -> 3;",
                "pass(1) -> 0; account(8) -> 200; account(12) -> 200; inflow(7) -> 200; pass(2) -> 0;",
                "account(8) -> 214");
    }

    private static void fine() {
        Script.run("3 fine",
                "fine(1) -> 5; fine(30) -> 1; fine(31)", IAE, "fine(0)", IAE, "fine(-2147483648)", IAE,
                "account(2) -> 30; account(18) -> 2; fine(30) -> 30; account(18) -> 3");
    }

    private static void gate() {
        Script.run("4 gate",
                "gate(0)", IAE, "gate(61)", IAE, "account(3) -> 0; gate(1) -> 0; gate(60) -> 1; gate(10) -> 2;",
                "gate(10) -> 3; gate(10) -> 4; gate(10) -> 5; refusal(false)", NSEE,
                "gate(0)", IAE, "refusal(false)", NSEE, "gate(10)", UOE,
                "refusal(false) -> 1; refusal(true) -> 6; account(3) -> 6; account(18) -> 6;",
                "gateOf(0, 0) -> 1; gateOf(1, 0) -> 60; gateOf(5, 1) -> 5; gateOf(5, 3) -> 0; gateOf(5, 4) -> 0;",
                "gateOf(6, 0)", IOOBE);
    }

    private static void garden() {
        Script.run("5 garden",
                "garden(0, 1, 1, 1)", IOOBE, "gate(5) -> 0; garden(1, 1, 1, 1)", IOOBE, "garden(-1, 0, 0, 0)", IOOBE,
                "garden(0, 0, 1, 1)", IAE, "garden(0, 21, 1, 1)", IAE, "garden(0, 1, 0, 1)", IAE,
                "garden(0, 1, 10, 1)", IAE, "garden(0, 1, 1, -1)", IAE, "garden(0, 1, 1, 100)", IAE,
                "account(4) -> 0; account(18) -> 1;",
                "garden(0, 20, 9, 99) -> 0; garden(0, 1, 1, 0) -> 1; gardenOf(0, 0) -> 0; gardenOf(0, 1) -> 20;",
                "gardenOf(0, 2) -> 9; gardenOf(0, 3) -> 99; gardenOf(0, 4) -> 0; gardenOf(0, 5) -> 0;",
                "gardenOf(0, 6) -> 0; gardenOf(0, 7) -> 0; gardenOf(0, 8) -> -1; gardenOf(1, 3) -> 0;");
        Script.run("5 garden, the thirteenth",
                "gate(5) -> 0; garden(0, 1, 1, 1) -> 0; garden(0, 1, 1, 1) -> 1; garden(0, 1, 1, 1) -> 2;",
                "garden(0, 1, 1, 1) -> 3; garden(0, 1, 1, 1) -> 4; garden(0, 1, 1, 1) -> 5;",
                "garden(0, 1, 1, 1) -> 6; garden(0, 1, 1, 1) -> 7; garden(0, 1, 1, 1) -> 8;",
                "garden(0, 1, 1, 1) -> 9; garden(0, 1, 1, 1) -> 10; garden(0, 1, 1, 1) -> 11;",
                "garden(1, 0, 0, 0)", IOOBE, "garden(0, 0, 0, 0)", IAE, "refusal(false)", NSEE,
                "garden(0, 1, 1, 1)", UOE, "refusal(false) -> 1; refusal(true) -> 12; account(4) -> 12;",
                "gateOf(0, 4) -> 12; gardenOf(12, 0)", IOOBE);
    }

    private static void open() {
        Script.run("6 open",
                "open(0, 0, 167, true)", IOOBE, "gate(5) -> 0; open(0, 0, 167, true) -> 168;",
                "open(0, 0, 0, false) -> 167; open(0, 0, 0, false) -> 167; open(0, 167, 167, false) -> 166;",
                "account(18) -> 5; open(0, 10, 9, true)", IAE, "open(0, -1, 3, true)", IAE, "open(0, 0, 168, true)", IAE,
                "open(0, 0, 2147483647, true)", IAE, "open(1, 10, 9, true)", IOOBE, "open(-1, 0, 0, true)", IOOBE,
                "account(18) -> 5; gateOf(0, 3) -> 166; open(0, 20, 50, false) -> 135;",
                "open(0, 20, 50, true) -> 166; open(0, 160, 167, true) -> 167; gate(1) -> 1;",
                "open(1, 23, 24, true) -> 2; gateOf(0, 3) -> 167; gateOf(1, 2) -> 0; pass(23) -> 0; gateOf(1, 2) -> 1");
    }

    private static void pay() {
        Script.run("7 pay",
                "pay(0, 1)", IOOBE, "gate(5) -> 0; garden(0, 1, 1, 99) -> 0; pay(0, 99) -> 198; pay(0, 1) -> 199;",
                "pay(0, 0)", IAE, "pay(0, 100)", IAE, "pay(0, -5)", IAE, "pay(1, 0)", IOOBE, "pay(-1, 5)", IOOBE,
                "gardenOf(0, 3) -> 199; account(7) -> 199; account(18) -> 4");
    }

    private static void thief() {
        Script.run("8 thief",
                "thief(0, true)", IOOBE, "gate(5) -> 0; garden(0, 1, 1, 9) -> 0; thief(0, false) -> false;",
                "thief(0, true) -> false; gardenOf(0, 5) -> 1; thief(0, true) -> true; thief(0, false) -> true;",
                "gardenOf(0, 5) -> 0; thief(-1, true)", IOOBE, "thief(1, true)", IOOBE, "account(18) -> 6");
    }

    private static void complain() {
        Script.run("9 complain",
                "complain(0, 0)", IOOBE, "gate(5) -> 0; garden(0, 1, 1, 9) -> 0; garden(0, 1, 1, 9) -> 1;",
                "garden(0, 1, 1, 9) -> 2; garden(0, 1, 1, 9) -> 3; complain(0, 4)", IOOBE, "complain(4, 0)", IOOBE,
                "complain(-1, -1)", IOOBE, "complain(2, 2)", IAE, "account(5) -> 0;",
                "complain(0, 1) -> 1; complain(0, 2) -> 2; complain(0, 3) -> 3; complain(1, 0) -> 4;",
                "complain(1, 2) -> 5; complain(1, 3) -> 6; complain(2, 0) -> 7; refusal(false)", NSEE,
                "complain(0, 1)", UOE, "refusal(false) -> 2; refusal(true) -> 0; complain(2, 1) -> 8;",
                "complain(2, 3)", UOE, "refusal(false) -> 1; refusal(true) -> 8; complain(1, 0)", UOE,
                "refusal(false) -> 2; refusal(true) -> 3; complain(3, 3)", IAE, "account(5) -> 8; account(18) -> 8");
    }

    private static void repair() {
        Script.run("10 repair by shares",
                "repair(0)", IOOBE, "gate(5) -> 0; gate(5) -> 1; garden(0, 1, 2, 30) -> 0; garden(1, 1, 1, 3) -> 1;",
                "garden(1, 1, 4, 50) -> 2; repair(2)", IOOBE, "repair(-1)", IOOBE, "repair(0) -> 1;",
                "gardenOf(0, 3) -> 27; gardenOf(1, 3) -> 1; gardenOf(2, 3) -> 44; gateOf(0, 1) -> 0;",
                "gateOf(1, 1) -> 5; account(6) -> 1; account(15) -> 1;",
                "repair(1) -> 0; gardenOf(0, 3) -> 27; gardenOf(1, 3) -> 0; gardenOf(2, 3) -> 36;",
                "account(15) -> 2; gateOf(1, 1) -> 0; account(18) -> 7");
        Script.run("10 a repaired stretch leaks no more, and again in the next week",
                "gate(5) -> 0; garden(0, 1, 1, 50) -> 0; inflow(100) -> 10; pass(1) -> 0; account(9) -> 5;",
                "repair(0) -> 0; gardenOf(0, 3) -> 40; pass(1) -> 0; account(9) -> 5; pass(166) -> 0;",
                "gateOf(0, 1) -> 1; account(9) -> 5; pass(1) -> 0; account(9) -> 6; repair(0) -> 0;",
                "gardenOf(0, 3) -> 38");
    }

    private static void repairRefused() {
        Script.run("10 reasons 3, 4 and 5",
                "gate(5) -> 0; gate(5) -> 1; repair(1)", UOE, "refusal(false) -> 4; refusal(true) -> 1;",
                "garden(0, 1, 1, 3) -> 0; repair(1)", UOE, "refusal(false) -> 4; refusal(true) -> 1;",
                "repair(0)", UOE, "refusal(false) -> 5; refusal(true) -> 7; gardenOf(0, 3) -> 3; account(6) -> 0;",
                "pay(0, 6) -> 9; repair(0)", UOE, "refusal(true) -> 1; pay(0, 1) -> 10; repair(0) -> 0;",
                "gardenOf(0, 3) -> 0; repair(0)", UOE, "refusal(false) -> 3; refusal(true) -> 0;",
                "garden(1, 1, 1, 99) -> 1; repair(1) -> 0; repair(1)", UOE, "refusal(false) -> 3; refusal(true) -> 1;",
                "account(15) -> 2; account(18) -> 8");
    }

    private static void passAndWater() {
        Script.run("11 pass, wrong numbers",
                "pass(0)", IAE, "pass(201)", IAE, "pass(-1)", IAE, "account(0) -> 0; account(18) -> 0;",
                "pass(200) -> 0; account(0) -> 200; pass(1) -> 0; account(0) -> 201; account(8) -> 2010;",
                "account(12) -> 2010");
        Script.run("11 the greatest thirst first, then more shares, then the lowest number",
                "gate(60) -> 0; open(0, 0, 167, true) -> 168; garden(0, 3, 1, 0) -> 0; garden(0, 3, 2, 0) -> 1;",
                "garden(0, 5, 1, 0) -> 2; pass(6) -> 0; account(16) -> 0; pass(1) -> 9; gardenOf(0, 6) -> 1;",
                "gardenOf(1, 6) -> 3; gardenOf(2, 6) -> 5; gardenOf(0, 4) -> 2; pass(1) -> 9; gardenOf(0, 4) -> 0;",
                "gardenOf(2, 4) -> 1; gardenOf(1, 4) -> 3");
        Script.run("11 at most 3 times the beds, each time anew",
                "inflow(100) -> 10; gate(60) -> 0; garden(0, 2, 1, 0) -> 0; open(0, 11, 12, true) -> 2;",
                "pass(11) -> 0; gardenOf(0, 4) -> 10; pass(1) -> 6; gardenOf(0, 4) -> 6; pass(1) -> 6;",
                "gardenOf(0, 4) -> 2; gateOf(0, 5) -> 120; gateOf(0, 6) -> 108");
        Script.run("11 a thirst is at most 99, and does not grow by night",
                "gate(1) -> 0; garden(0, 20, 1, 0) -> 0; garden(0, 1, 1, 0) -> 1; pass(10) -> 0;",
                "gardenOf(0, 4) -> 80; pass(1) -> 0; gardenOf(0, 4) -> 99; pass(13) -> 0; gardenOf(1, 4) -> 18;",
                "pass(6) -> 0; gardenOf(1, 4) -> 18; gardenOf(0, 4) -> 99; pass(1) -> 0; gardenOf(1, 4) -> 19");
        Script.run("11 what runs back is there for the next gate",
                "inflow(20) -> 10; gate(60) -> 0; gate(10) -> 1; open(0, 0, 167, true) -> 168;",
                "open(1, 0, 167, true) -> 168; garden(1, 2, 1, 0) -> 0; garden(0, 1, 1, 0) -> 1; pass(7) -> 3;",
                "gateOf(0, 5) -> 133; gateOf(0, 6) -> 132; gateOf(1, 5) -> 70; gateOf(1, 6) -> 68;",
                "account(8) -> 140; account(9) -> 14; account(10) -> 3; account(12) -> 123; account(11) -> 0");
    }

    private static void passAndLeak() {
        Script.run("11 leaks round up, also at a shut gate, and grow by the week up to 50",
                "gate(5) -> 0; gate(5) -> 1; pass(1) -> 0; account(9) -> 2; inflow(40) -> 10; pass(1) -> 0;",
                "account(9) -> 6; pass(165) -> 0; gateOf(0, 1) -> 5; pass(1) -> 0; gateOf(0, 1) -> 6; gateOf(1, 1) -> 6;",
                "gate(5) -> 2; gateOf(2, 1) -> 5; pass(167) -> 0; gateOf(1, 1) -> 6; pass(1) -> 0; gateOf(1, 1) -> 7;",
                "gateOf(2, 1) -> 6");
        AcequiaGates ditch = new AcequiaGates();
        ditch.gate(1);
        passWeeks(ditch, 44);
        Script.check("11 a leak of 49 after 44 weeks", ditch.gateOf(0, 1) == 49);
        passWeeks(ditch, 1);
        Script.check("11 a leak of 50 after 45 weeks", ditch.gateOf(0, 1) == 50);
        passWeeks(ditch, 1);
        Script.check("11 a leak stays at 50", ditch.gateOf(0, 1) == 50);
        int leaked = ditch.account(9);
        ditch.inflow(200);
        ditch.pass(1);
        Script.check("11 half of 200 leaks", ditch.account(9) == leaked + 100);
    }

    private static void passWeeks(AcequiaGates ditch, int weeks) {
        for (int i = 0; i < weeks; i++) {
            ditch.pass(168);
        }
    }

    private static void passAndSteal() {
        Script.run("11 thieves by their numbers, by night, of what is left",
                "gate(1) -> 0; garden(0, 2, 1, 0) -> 0; garden(0, 2, 9, 0) -> 1; garden(0, 2, 1, 0) -> 2;",
                "thief(0, true) -> false; thief(1, true) -> false; pass(24) -> 0; account(11) -> 0;",
                "gardenOf(0, 4) -> 36; gardenOf(1, 8) -> -1; pass(1) -> 0; gardenOf(0, 7) -> 6; gardenOf(1, 7) -> 3;",
                "gardenOf(2, 7) -> 0; gardenOf(0, 4) -> 30; gardenOf(1, 4) -> 33; gardenOf(2, 4) -> 36;",
                "gardenOf(0, 8) -> 24; gardenOf(1, 8) -> 24; gardenOf(2, 8) -> -1; account(11) -> 9;",
                "account(12) -> 216; account(9) -> 25; account(8) -> 250; gardenOf(0, 6) -> 0");
        Script.run("11 an hour in which nothing could be stolen is not noted",
                "gate(1) -> 0; garden(0, 2, 1, 0) -> 0; thief(0, true) -> false; pass(25) -> 0; gardenOf(0, 8) -> 24;",
                "inflow(0) -> 10; pass(1) -> 0; gardenOf(0, 8) -> 24; inflow(1) -> 0; pass(1) -> 0;",
                "gardenOf(0, 8) -> 24; inflow(2) -> 1; pass(1) -> 0; gardenOf(0, 8) -> 27; gardenOf(0, 7) -> 7");
        Script.run("11 a thief drinks anew behind its watering",
                "inflow(30) -> 10; gate(6) -> 0; garden(0, 2, 1, 0) -> 0; thief(0, true) -> false;",
                "open(0, 24, 24, true) -> 1; pass(24) -> 0; pass(1) -> 6; gardenOf(0, 6) -> 6; gardenOf(0, 7) -> 6;",
                "gardenOf(0, 4) -> 24; account(10) -> 6; account(11) -> 6");
    }

    private static void passAndHear() {
        String thiefInTheFirstWeek = "gate(1) -> 0; garden(0, 1, 1, 20) -> 0; garden(0, 2, 1, 20) -> 1;"
                + "garden(0, 1, 1, 0) -> 2; thief(1, true) -> false;";
        Script.run("11 found guilty on a Thursday",
                thiefInTheFirstWeek, "complain(0, 1) -> 1; pass(84) -> 0; account(5) -> 1; account(13) -> 0;",
                "gardenOf(1, 5) -> 1; gardenOf(1, 8) -> 77; pass(1) -> 0; account(5) -> 0; account(13) -> 1;",
                "account(14) -> 1; gardenOf(1, 5) -> 0; gardenOf(1, 3) -> 15; gardenOf(0, 3) -> 22; account(6) -> 3;",
                "account(7) -> 37");
        Script.run("3 and 11 the fine of the hearing, and all coins, if they are fewer",
                thiefInTheFirstWeek, "fine(3) -> 5; complain(0, 1) -> 1; complain(2, 1) -> 2; fine(13) -> 3;",
                "pass(85) -> 0; gardenOf(0, 3) -> 26; gardenOf(1, 3) -> 0; gardenOf(2, 3) -> 3; account(6) -> 11;",
                "account(13) -> 2; account(14) -> 2; account(5) -> 0");
        Script.run("11 not found guilty",
                thiefInTheFirstWeek, "complain(0, 2) -> 1; complain(2, 0) -> 2; pass(85) -> 0; account(13) -> 2;",
                "account(14) -> 0; gardenOf(0, 3) -> 19; gardenOf(2, 3) -> 0; account(6) -> 1; gardenOf(1, 5) -> 1");
        Script.run("11 a theft of 175 hours ago is too old",
                thiefInTheFirstWeek, "pass(85) -> 0; thief(1, false) -> true; complain(0, 1) -> 1; pass(167) -> 0;",
                "account(0) -> 252; gardenOf(1, 8) -> 77; pass(1) -> 0; account(13) -> 1; account(14) -> 0;",
                "gardenOf(0, 3) -> 19; account(6) -> 1");
        Script.run("11 a theft of 151 hours ago is not",
                thiefInTheFirstWeek, "pass(102) -> 0; thief(1, false) -> true; complain(0, 1) -> 1; pass(150) -> 0;",
                "gardenOf(1, 8) -> 101; pass(1) -> 0; account(13) -> 1; account(14) -> 1; gardenOf(0, 3) -> 22");
    }

    private static void fullDitch() {
        Script.run("4, 5, 9, 10 and 11 with six gates, twelve gardens and eight complaints",
                "gate(60) -> 0; gate(60) -> 1; gate(60) -> 2; gate(60) -> 3; gate(60) -> 4; gate(60) -> 5;",
                "garden(0, 1, 1, 10) -> 0; garden(0, 1, 1, 10) -> 1; garden(1, 1, 1, 10) -> 2; garden(1, 1, 1, 10) -> 3;",
                "garden(2, 1, 1, 10) -> 4; garden(2, 1, 1, 1) -> 5; garden(3, 1, 1, 10) -> 6; garden(3, 1, 1, 10) -> 7;",
                "garden(4, 1, 1, 10) -> 8; garden(4, 1, 1, 10) -> 9; garden(5, 1, 1, 10) -> 10; garden(5, 1, 1, 5) -> 11;",
                "complain(0, 1) -> 1; complain(1, 2) -> 2; complain(2, 3) -> 3; complain(3, 4) -> 4; complain(4, 5) -> 5;",
                "complain(5, 6) -> 6; complain(11, 0) -> 7; complain(11, 10) -> 8; inflow(200) -> 10; pass(1) -> 0;",
                "account(9) -> 55; account(12) -> 145; account(16) -> 0; repair(5) -> 0; gardenOf(10, 3) -> 5;",
                "gardenOf(11, 3) -> 0; gardenOf(9, 3) -> 10; account(7) -> 96; save() -> 12; pass(84) -> 0;",
                "account(13) -> 8; account(14) -> 0; account(6) -> 6; account(7) -> 90; gardenOf(5, 3) -> 0;",
                "account(16) -> 732; isWell() -> true; undo() -> 7; account(16) -> 0; complaint(7, true) -> 10;",
                "restore() -> 12; complaint(7, false) -> 11; thirsty(5, 1) -> 11; dryIn() -> 134");
    }

    private static void madeAnew() {
        Script.run("4 and 5 gates and gardens in place of forgotten ones are new",
                "save() -> 0; gate(3) -> 0; open(0, 3, 3, true) -> 1; open(0, 24, 25, true) -> 3; garden(0, 2, 1, 9) -> 0;",
                "thief(0, true) -> false; pass(26) -> 6; gateOf(0, 5) -> 9; gateOf(0, 6) -> 3; gardenOf(0, 4) -> 18;",
                "gardenOf(0, 6) -> 6; gardenOf(0, 7) -> 12; gardenOf(0, 8) -> 25; restore() -> 0;",
                "gate(7) -> 0; gateOf(0, 0) -> 7; gateOf(0, 1) -> 5;",
                "gateOf(0, 3) -> 0; gateOf(0, 5) -> 0; gateOf(0, 6) -> 0; garden(0, 1, 5, 3) -> 0; gardenOf(0, 1) -> 1;",
                "gardenOf(0, 2) -> 5; gardenOf(0, 3) -> 3; gardenOf(0, 4) -> 0; gardenOf(0, 5) -> 0;",
                "gardenOf(0, 6) -> 0; gardenOf(0, 7) -> 0; gardenOf(0, 8) -> -1");
    }
}
