/** Promises 12 to 19: what there is. */
final class LookTest {
    private static final String IAE = "-> throws IllegalArgumentException;";
    private static final String IOOBE = "-> throws IndexOutOfBoundsException;";
    private static final String NSEE = "-> throws NoSuchElementException;";

    private LookTest() {
    }

    public static void main(String[] args) {
        gateOf();
        nextOpen();
        gardenOf();
        placesOfThirst();
        complaint();
        sign();
        part();
        Script.close("LookTest");
    }

    private static void gateOf() {
        Script.run("12 gateOf",
                "gateOf(0, 0)", IOOBE, "gate(12) -> 0; gate(7) -> 1; garden(1, 1, 1, 0) -> 0; garden(1, 2, 1, 0) -> 1;",
                "open(1, 5, 6, true) -> 2; gateOf(0, 0) -> 12; gateOf(1, 0) -> 7; gateOf(1, 1) -> 5;",
                "gateOf(1, 2) -> 0; gateOf(1, 3) -> 2; gateOf(0, 3) -> 0; gateOf(1, 4) -> 2; gateOf(0, 4) -> 0;",
                "gateOf(1, 5) -> 0; gateOf(1, 6) -> 0; gateOf(1, -1)", IAE, "gateOf(1, 7)", IAE, "gateOf(2, 7)", IOOBE,
                "gateOf(-1, 0)", IOOBE, "pass(5) -> 0; gateOf(1, 2) -> 1; gateOf(1, 5) -> 0; pass(1) -> 0;",
                "gateOf(1, 2) -> 1; gateOf(1, 5) -> 7; gateOf(1, 6) -> 7; pass(1) -> 3; gateOf(1, 2) -> 0;",
                "gateOf(1, 5) -> 14; gateOf(1, 6) -> 11; gateOf(0, 5) -> 0");
        Script.run("12 the hour of the week that is now", "gate(12) -> 0; open(0, 0, 0, true) -> 1; gateOf(0, 2) -> 1;",
                "pass(167) -> 0; gateOf(0, 2) -> 0; pass(1) -> 0; gateOf(0, 2) -> 1; pass(168) -> 0; gateOf(0, 2) -> 1");
    }

    private static void nextOpen() {
        Script.run("13 nextOpen",
                "gate(12) -> 0; nextOpen(0)", NSEE, "nextOpen(1)", IOOBE, "nextOpen(-1)", IOOBE,
                "open(0, 5, 5, true) -> 1; nextOpen(0) -> 5; pass(5) -> 0; nextOpen(0) -> 5; pass(1) -> 0;",
                "nextOpen(0) -> 173; pass(194) -> 0; account(0) -> 200; nextOpen(0) -> 341;",
                "open(0, 32, 32, true) -> 2; nextOpen(0) -> 200; open(0, 31, 31, true) -> 3;",
                "open(0, 32, 32, false) -> 2; nextOpen(0) -> 341; open(0, 5, 5, false) -> 1; nextOpen(0) -> 367;",
                "open(0, 31, 31, false) -> 0; nextOpen(0)", NSEE);
    }

    private static void gardenOf() {
        Script.run("14 gardenOf",
                "gardenOf(0, 0)", IOOBE, "inflow(40) -> 10; gate(6) -> 0; gate(9) -> 1; garden(1, 3, 4, 5) -> 0;",
                "open(1, 23, 24, true) -> 2; thief(0, true) -> false; gardenOf(0, 0) -> 1; gardenOf(0, 1) -> 3;",
                "gardenOf(0, 2) -> 4; gardenOf(0, 3) -> 5; gardenOf(0, 4) -> 0; gardenOf(0, 5) -> 1;",
                "gardenOf(0, 6) -> 0; gardenOf(0, 7) -> 0; gardenOf(0, 8) -> -1; gardenOf(0, 9)", IAE,
                "gardenOf(0, -1)", IAE, "gardenOf(1, 9)", IOOBE, "gardenOf(-1, 0)", IOOBE, "pass(24) -> 9;",
                "gardenOf(0, 4) -> 45; pass(3) -> 9; gardenOf(0, 4) -> 9; gardenOf(0, 6) -> 18; gardenOf(0, 7) -> 27;",
                "gardenOf(0, 8) -> 26; pass(7) -> 0; gardenOf(0, 8) -> 27; gardenOf(0, 7) -> 36; gardenOf(0, 4) -> 12");
    }

    private static void placesOfThirst() {
        String sixGardens = "gate(3) -> 0; gate(3) -> 1; gate(3) -> 2; garden(0, 2, 1, 0) -> 0; garden(1, 9, 9, 0) -> 1;"
                + "garden(0, 2, 3, 0) -> 2; garden(0, 3, 1, 0) -> 3; garden(1, 9, 9, 0) -> 4; garden(0, 2, 3, 0) -> 5;";
        Script.run("15 thirsty", sixGardens,
                "thirsty(0, 0) -> 2; thirsty(0, 1) -> 5; thirsty(0, 2) -> 0; thirsty(0, 3) -> 3; thirsty(0, 4)", NSEE,
                "thirsty(0, -1)", NSEE, "thirsty(1, 0) -> 1; thirsty(1, 1) -> 4; thirsty(1, 2)", NSEE,
                "thirsty(2, 0)", NSEE, "thirsty(3, 0)", IOOBE, "thirsty(-1, -1)", IOOBE, "pass(7) -> 0;",
                "thirsty(0, 0) -> 3; thirsty(0, 1) -> 2; thirsty(0, 2) -> 5; thirsty(0, 3) -> 0; thirsty(0, 4)", NSEE);
        Script.run("16 placeAgain", sixGardens,
                "placeAgain(2) -> 0; placeAgain(5) -> 1; placeAgain(0) -> 2; placeAgain(3) -> 3; placeAgain(1) -> 0;",
                "placeAgain(4) -> 1; placeAgain(6)", IOOBE, "placeAgain(-1)", IOOBE, "pass(7) -> 0;",
                "placeAgain(3) -> 0; placeAgain(2) -> 1; placeAgain(5) -> 2; placeAgain(0) -> 3; placeAgain(4) -> 1");
    }

    private static void complaint() {
        Script.run("17 complaint",
                "complaint(0, true)", NSEE, "gate(3) -> 0; garden(0, 1, 1, 1) -> 0; garden(0, 1, 1, 1) -> 1;",
                "garden(0, 1, 1, 1) -> 2; complain(2, 0) -> 1; complain(1, 2) -> 2; complaint(0, false) -> 2;",
                "complaint(0, true) -> 0; complaint(1, false) -> 1; complaint(1, true) -> 2; complaint(2, true)", NSEE,
                "complaint(2, false)", NSEE, "complaint(-1, true)", NSEE, "complaint(2147483647, false)", NSEE,
                "pass(85) -> 0; complaint(0, false)", NSEE);
    }

    private static void sign() {
        Script.run("18 sign",
                "sign(0)", IOOBE, "gate(3) -> 0; garden(0, 1, 1, 1) -> 0; garden(0, 20, 1, 1) -> 1; sign(0) -> w;",
                "sign(-1)", IOOBE, "sign(2)", IOOBE, "pass(6) -> 0; sign(0) -> w; pass(1) -> 0; sign(0) -> t;",
                "sign(1) -> t; pass(2) -> 0; sign(1) -> d; pass(74) -> 0; gardenOf(0, 4) -> 59; sign(0) -> t;",
                "pass(1) -> 0; gardenOf(0, 4) -> 60; sign(0) -> d; sign(1) -> d");
    }

    private static void part() {
        Script.run("19 part",
                "part(0, 0)", IOOBE, "gate(5) -> 0; gate(5) -> 1; part(0, 0)", IOOBE, "garden(0, 1, 2, 30) -> 0;",
                "garden(1, 1, 1, 0) -> 1; garden(1, 1, 4, 50) -> 2; part(0, 0) -> 3; part(1, 0) -> 2; part(2, 0) -> 6;",
                "part(0, 1) -> 0; part(1, 1) -> 2; part(2, 1) -> 8; part(0, 2)", IOOBE, "part(3, 0)", IOOBE,
                "part(-1, 0)", IOOBE, "part(0, -1)", IOOBE, "pay(1, 2) -> 2; repair(0) -> 1; part(0, 0) -> 0; part(2, 0) -> 0;",
                "part(2, 1) -> 8; pass(168) -> 0; part(0, 0) -> 1; part(1, 1) -> 3; part(2, 1) -> 10");
    }
}
