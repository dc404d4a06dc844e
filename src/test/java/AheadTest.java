/** Promises 20 to 22: what comes ahead. */
final class AheadTest {
    private static final String IAE = "-> throws IllegalArgumentException;";
    private static final String IOOBE = "-> throws IndexOutOfBoundsException;";
    private static final String NSEE = "-> throws NoSuchElementException;";

    private AheadTest() {
    }

    public static void main(String[] args) {
        ahead();
        dryIn();
        bestHour();
        Script.close("AheadTest");
    }

    private static void ahead() {
        Script.run("20 ahead",
                "ahead(0, 1)", IOOBE, "inflow(50) -> 10; gate(20) -> 0; open(0, 8, 20, true) -> 13; ahead(0, 8) -> 0;",
                "ahead(0, 9) -> 20; ahead(0, 24) -> 260; ahead(0, 200) -> 520; ahead(0, 0)", IAE, "ahead(0, 201)", IAE,
                "ahead(0, -1)", IAE, "ahead(1, 0)", IOOBE, "ahead(-1, 1)", IOOBE,
                "account(0) -> 0; account(8) -> 0; gateOf(0, 5) -> 0; account(18) -> 3; pass(8) -> 0;",
                "ahead(0, 1) -> 20; pass(1) -> 0; gateOf(0, 5) -> 20; ahead(0, 1) -> 20; inflow(11) -> 50;",
                "ahead(0, 1) -> 10; inflow(0) -> 11; ahead(0, 200) -> 0; account(0) -> 9");
        Script.run("20 what the gates above leave, and what runs back",
                "inflow(20) -> 10; gate(12) -> 0; gate(60) -> 1; garden(0, 4, 1, 0) -> 0; open(0, 0, 6, true) -> 7;",
                "open(1, 0, 6, true) -> 7; ahead(0, 7) -> 84; ahead(1, 6) -> 108; ahead(1, 7) -> 122;",
                "gardenOf(0, 4) -> 0; gardenOf(0, 6) -> 0; pass(7) -> 4; gateOf(1, 5) -> 122");
    }

    private static void dryIn() {
        Script.run("21 dryIn",
                "dryIn()", NSEE, "gate(5) -> 0; dryIn()", NSEE, "garden(0, 1, 1, 1) -> 0; dryIn() -> 135;",
                "pass(100) -> 0; dryIn() -> 35; account(0) -> 100; gardenOf(0, 4) -> 72; pass(34) -> 0; dryIn() -> 1;",
                "pass(1) -> 0; dryIn() -> 0; gardenOf(0, 4) -> 99; garden(0, 20, 1, 1) -> 1; dryIn() -> 0");
        Script.run("21 some garden", "gate(5) -> 0; garden(0, 1, 1, 1) -> 0; garden(0, 20, 1, 1) -> 1; dryIn() -> 11");
        Script.run("21 in 200 hours",
                "gate(5) -> 0; garden(0, 1, 1, 1) -> 0; open(0, 32, 64, true) -> 33; dryIn() -> 200;",
                "open(0, 65, 65, true) -> 34; dryIn()", NSEE, "open(0, 0, 167, true) -> 168; dryIn()", NSEE,
                "account(0) -> 0; account(16) -> 0");
    }

    private static void bestHour() {
        Script.run("22 bestHour, the earliest of several",
                "bestHour(0)", IOOBE, "gate(5) -> 0; bestHour(0) -> 0; bestHour(1)", IOOBE, "bestHour(-1)", IOOBE,
                "open(0, 0, 3, true) -> 4; bestHour(0) -> 4; open(0, 0, 23, true) -> 24; bestHour(0)", NSEE,
                "pass(1) -> 0; bestHour(0) -> 24; inflow(0) -> 10; bestHour(0) -> 24; gateOf(0, 3) -> 24;",
                "open(0, 1, 24, true) -> 25; bestHour(0)", NSEE, "open(0, 7, 7, false) -> 24; bestHour(0) -> 7;",
                "account(0) -> 1");
        Script.run("22 bestHour, where a garden above drinks by day",
                "inflow(60) -> 10; gate(60) -> 0; gate(60) -> 1; garden(0, 20, 1, 0) -> 0;",
                "open(0, 0, 167, true) -> 168; bestHour(1) -> 0; pass(6) -> 0; bestHour(1) -> 24;",
                "open(1, 24, 24, true) -> 1; bestHour(1) -> 25; open(1, 25, 29, true) -> 6; bestHour(1) -> 6;",
                "gateOf(1, 3) -> 6; account(0) -> 6; pass(168) -> 2520; account(0) -> 174; bestHour(1) -> 174;",
                "open(1, 24, 29, false) -> 0; bestHour(1) -> 192");
    }
}
