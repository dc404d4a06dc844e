/** Promises 23 to 26: the input, texts of orders, error positions and reasons. */
final class TextTest {
    private static final String IAE = "-> throws IllegalArgumentException;";
    private static final String UOE = "-> throws UnsupportedOperationException;";
    private static final String NSEE = "-> throws NoSuchElementException;";
    private static final String GARDENS = "gate(5) -> 0; garden(0, 1, 1, 9) -> 0; garden(0, 1, 1, 9) -> 1;"
            + "garden(0, 1, 1, 9) -> 2;";

    private TextTest() {
    }

    public static void main(String[] args) {
        append();
        readOrders();
        readRefused();
        errorPosition();
        everyPlace();
        refusal();
        Script.close("TextTest");
    }

    private static void append() {
        Script.run("23 append",
                "append(\"h1\") -> 2; append(0) -> 3; append(65535) -> 4; account(17) -> 4; account(18) -> 0; read()", IAE,
                "account(17) -> 0; append(\"123456789012345678901234567890123456789012345678901234567890\") -> 60;",
                "append(\"h\") -> throws IllegalStateException; account(17) -> 60; read()", IAE, "errorPosition() -> 0;",
                "account(17) -> 0; append(\"h\") -> 1");
    }

    private static void readOrders() {
        Script.run("24 read, one order of each kind", GARDENS,
                "append(\"o0:8-20\") -> 7; read() -> 1; gateOf(0, 3) -> 13; account(17) -> 0;",
                "append(\"s0:10-012\") -> 9; read() -> 1; gateOf(0, 3) -> 10; append(\"i150\") -> 4; read() -> 1;",
                "account(1) -> 150; append(\"h9\") -> 2; read() -> 1; account(0) -> 9; append(\"c2>00\") -> 5;",
                "read() -> 1; complaint(0, false) -> 2; complaint(0, true) -> 0; append(\"r0\") -> 2; read() -> 1;",
                "gateOf(0, 1) -> 0; account(15) -> 1; account(18) -> 8; errorPosition() -> -1");
        Script.run("24 read, several orders are one change", GARDENS,
                "append(\"i50;o0:0-6;h7;c1>0;c01>2;r0;i0\") -> 30; read() -> 7; account(0) -> 7; account(1) -> 0;",
                "account(5) -> 2; account(8) -> 350; account(10) -> 3; gateOf(0, 1) -> 0; account(18) -> 5; undo() -> 4;",
                "account(0) -> 0; account(1) -> 10; account(5) -> 0; account(8) -> 0; gateOf(0, 3) -> 0;",
                "gateOf(0, 1) -> 5");
        Script.run("24 read, twenty orders",
                "append(\"i1;i2;i3;i4;i5;i6;i7;i8;i9;i1;i2;i3;i4;i5;i6;i7;i8;i9;i0;h1\") -> 59; read() -> 20;",
                "account(1) -> 0; account(0) -> 1");
        Script.run("24 read, ten of the gardens have two digits",
                GARDENS, "garden(0, 1, 1, 9) -> 3; garden(0, 1, 1, 9) -> 4; garden(0, 1, 1, 9) -> 5;",
                "garden(0, 1, 1, 9) -> 6; garden(0, 1, 1, 9) -> 7; garden(0, 1, 1, 9) -> 8; garden(0, 1, 1, 9) -> 9;",
                "garden(0, 1, 1, 9) -> 10; garden(0, 1, 1, 9) -> 11; append(\"c11>10\") -> 6; read() -> 1;",
                "complaint(0, false) -> 11; complaint(0, true) -> 10");
    }

    private static void readRefused() {
        Script.run("24 read, nothing of a text is carried out if an order cannot be", GARDENS,
                "append(\"h5;i50;h0\") -> 9; read()", IAE, "errorPosition() -> -1; account(0) -> 0; account(1) -> 10;",
                "account(17) -> 0; account(18) -> 4; refusal(false)", NSEE,
                "append(\"h201\") -> 4; read()", IAE, "append(\"i201\") -> 4; read()", IAE, "errorPosition() -> -1;",
                "append(\"o1:0-1\") -> 6; read()", IAE, "append(\"s0:2-1\") -> 6; read()", IAE,
                "append(\"o0:0-168\") -> 8; read()", IAE, "append(\"c0>3\") -> 4; read()", IAE,
                "append(\"c99>0\") -> 5; read()", IAE, "append(\"c1>1\") -> 4; read()", IAE, "errorPosition() -> -1;",
                "append(\"r1\") -> 2; read()", IAE, "append(\"r9\") -> 2; read()", IAE, "account(18) -> 4");
        Script.run("24 read, the first order that cannot be decides", GARDENS,
                "append(\"c0>1;c0>1;h0\") -> 12; read()", UOE, "refusal(false) -> 2; refusal(true) -> 0; account(5) -> 0;",
                "append(\"c0>1;h0;c0>1\") -> 12; read()", IAE, "append(\"r0;i3;r0\") -> 8; read()", UOE,
                "refusal(false) -> 3; refusal(true) -> 0; gateOf(0, 1) -> 5; account(1) -> 10; account(18) -> 4;",
                "errorPosition() -> -1; account(7) -> 27");
        Script.run("24 read, the reasons of complaints and repairs",
                "gate(5) -> 0; append(\"h1;r0\") -> 5; read()", UOE, "refusal(false) -> 4; refusal(true) -> 0;",
                "account(0) -> 0; garden(0, 1, 1, 4) -> 0; append(\"r0\") -> 2; read()", UOE, "refusal(false) -> 5;",
                "refusal(true) -> 6; append(\"h168;r0\") -> 7; read()", UOE, "refusal(true) -> 8; gateOf(0, 1) -> 5");
    }

    private static void errorPosition() {
        position("", 0);
        position("x", 0);
        position("O", 0);
        position("o", 1);
        position("o:", 1);
        position("o12:", 2);
        position("o0", 2);
        position("o0:", 3);
        position("o0:-", 3);
        position("o0:1234", 6);
        position("o0:123", 6);
        position("o0:1-", 5);
        position("o0:1-x", 5);
        position("o0:1-2345", 8);
        position("s0;", 2);
        position("h", 1);
        position("h;", 1);
        position("h1234", 4);
        position("h1 ", 2);
        position("h1;", 3);
        position("h1;;", 3);
        position(";h1", 0);
        position("h-1", 1);
        position("i", 1);
        position("i1i", 2);
        position("c", 1);
        position("c123>1", 3);
        position("c1>", 3);
        position("c1>123", 5);
        position("c1:2", 2);
        position("r", 1);
        position("r12", 2);
        position("r0;r0;r", 7);
        position("h1;h1;h1;h1;h1;h1;h1;h1;h1;h1;h1;h1;h1;h1;h1;h1;h1;h1;h1;h1;", 60);
        Script.run("25 the latest text", "append(\"h1\") -> 2; errorPosition() -> -1; append(\"x\") -> 3; read()", IAE,
                "errorPosition() -> 2; append(\"h1\") -> 2; errorPosition() -> 2; read() -> 1; errorPosition() -> -1;",
                "append(\"h1x\") -> 3; read()", IAE, "undo() -> 0; errorPosition() -> 2; save() -> 0; append(\"h0\") -> 2;",
                "restore() -> 0; errorPosition() -> 2; account(17) -> 2; read()", IAE, "errorPosition() -> -1");
    }

    private static void position(String text, int position) {
        AcequiaGates ditch = new AcequiaGates();
        for (char c : text.toCharArray()) {
            ditch.append(c);
        }
        boolean isThrown = false;
        try {
            ditch.read();
        } catch (IllegalArgumentException e) {
            isThrown = true;
        }
        Script.check("25 the error position of " + text + ", which was " + ditch.errorPosition(),
                isThrown && ditch.errorPosition() == position && ditch.account(17) == 0 && ditch.account(18) == 0);
    }

    /** At each place of a right text, a sign that no text has there is the error. */
    private static void everyPlace() {
        String text = "o0:100-101;s1:2-3;h200;i99;c11>10;r5";
        for (int i = 0; i < text.length(); i++) {
            position(text.substring(0, i) + '#' + text.substring(i + 1), i);
        }
    }

    private static void refusal() {
        Script.run("26 refusal", "refusal(true)", NSEE, "refusal(false)", NSEE, GARDENS, "complain(0, 1) -> 1;",
                "complain(1, 2) -> 2; complain(1, 2)", UOE, "refusal(false) -> 2; refusal(true) -> 1; inflow(201)", IAE,
                "gate(9) -> 1; refusal(false) -> 2; refusal(true) -> 1; undo() -> 6; undo() -> 5; refusal(true) -> 1;",
                "save() -> 3; repair(0) -> 2; repair(0)", UOE, "refusal(false) -> 3; restore() -> 3; refusal(false) -> 3;",
                "refusal(true) -> 0");
    }
}
