/** Edges of the promises 23 to 30: the input, reasons, accounts and shares. */
final class InputEdges {
    private static final String MOST = "2147483647";
    private static final String LEAST = "-2147483648";
    private static final String FIRST = "the one that is documented first is thrown";
    private static final String GARDENS = "gate(5) -> 0;" + Edge.gardens(3);

    private InputEdges() {
    }

    static void run() {
        append();
        read();
        readThrows();
        errorPosition();
        refusal();
        account();
        accountOfMuch();
        isWell();
        share();
        shareOfMuch();
        meanThirst();
    }

    private static void append() {
        Edge.test("23 append", "Appends a character to the input", "behind those that are there", """
                append("i1") -> 2; account(1) -> 10; append("2") -> 3; read() -> 1; account(1) -> 12
                """);
        Edge.test("23 append", "`c`: the character", "the least, the greatest, and any other",
                "append(0) -> 1; append(65535) -> 2; append(233) -> 3; append(32) -> 4; append(10) -> 5; "
                + "account(17) -> 5");
        Edge.test("23 append", "Returns the characters in the input then", "1, 60, and 1 again when it was read", """
                append("h") -> 1; 58 * append(49) -> any; account(17) -> 59; append("x") -> 60; read() -> IAE;
                append("h") -> 1
                """);
        Edge.test("23 append", "if the input contains 60 characters", "59 can be added to, 60 cannot, and stay", """
                append("h1;h2;h3;h4;h5;h6;h7;h8;h9;i1;i2;i3;i4;i5;i6;i7;i8;i9;c0>;r0;") -> ISE; account(17) -> 60;
                read() -> IAE; append("h1;h2;h3;h4;h5;h6;h7;h8;h9;i1;i2;i3;i4;i5;i6;i7;i8;i9;i0;i00") -> 60;
                append("0") -> ISE; append(0) -> ISE; account(17) -> 60; read() -> 20; account(0) -> 45;
                account(1) -> 0; append("0") -> 1
                """);
    }

    private static void read() {
        String carries = "Carries out the text in the input, which is empty afterwards, also if an exception is thrown";
        Edge.test("24 read", carries, "empty when it was carried out, wrong, or refused", GARDENS, """
                append("h1") -> 2; read() -> 1; account(17) -> 0; append("h") -> 1; read() -> IAE; account(17) -> 0;
                append("h0") -> 2; read() -> IAE; account(17) -> 0; append("c0>1;c0>1") -> 9; read() -> UOE;
                account(17) -> 0; read() -> IAE; account(17) -> 0; errorPosition() -> 0
                """);
        Edge.test("24 read", carries, "nothing of a wrong text is in the next one",
                "append(\"h9;\") -> 3; read() -> IAE; append(\"h1\") -> 2; read() -> 1; account(0) -> 1");
        Edge.test("24 read", carries, "an empty input is no text", "read() -> IAE; errorPosition() -> 0; "
                + "account(18) -> 0");
        Edge.test("24 read", "Returns the number of orders", "1, 2 and 20", """
                append("h1") -> 2; read() -> 1; append("h1;i0") -> 5; read() -> 2;
                append("i0;i1;i2;i3;i4;i5;i6;i7;i8;i9;i0;i1;i2;i3;i4;i5;i6;i7;i8;i9") -> 59; read() -> 20;
                account(18) -> 3
                """);
    }

    private static void readThrows() {
        String error = "or the method for an order would throw another exception";
        Edge.test("24 read", error, "an error behind orders that could be", GARDENS,
                "append(\"h1;i2;x\") -> 7; read() -> IAE; errorPosition() -> 6; account(0) -> 0; account(1) -> 10");
        Edge.test("24 read", error, "orders whose methods throw IndexOutOfBoundsException", GARDENS, """
                append("o1:0-0") -> 6; read() -> IAE; append("s1:0-0") -> 6; read() -> IAE; append("c3>0") -> 4;
                read() -> IAE; append("c0>3") -> 4; read() -> IAE; append("r1") -> 2; read() -> IAE;
                refusal(false) -> NSEE; account(18) -> 4
                """);
        Edge.test("24 read", error, "orders whose methods throw IllegalArgumentException", GARDENS, """
                append("o0:2-1") -> 6; read() -> IAE; append("s0:0-168") -> 8; read() -> IAE; append("h0") -> 2;
                read() -> IAE; append("h201") -> 4; read() -> IAE; append("i201") -> 4; read() -> IAE;
                append("c2>2") -> 4; read() -> IAE; account(18) -> 4; errorPosition() -> -1
                """);
        Edge.test("24 read", "if the text has no error, its position is -1",
                "one that cannot be carried out, behind one with an error",
                "append(\"x\") -> 1; read() -> IAE; errorPosition() -> 0; append(\"h0\") -> 2; read() -> IAE; "
                + "errorPosition() -> -1");
        Edge.test("24 read", "if it is refused for a reason of the method for an order", "each of the reasons 1 to 5",
                GARDENS, """
                append("c0>1;c0>2;c1>0;c1>2;c2>0;c2>1") -> 29; read() -> 6; garden(0, 1, 1, 1) -> 3;
                append("c3>0;c3>1;c0>3") -> 14; read() -> UOE; refusal(false) -> 1; refusal(true) -> 8;
                append("c2>1") -> 4; read() -> UOE; refusal(false) -> 2; refusal(true) -> 5; append("r0;r0") -> 5;
                read() -> UOE; refusal(false) -> 3; refusal(true) -> 0; gate(1) -> 1; append("r1") -> 2; read() -> UOE;
                refusal(false) -> 4; refusal(true) -> 1; garden(1, 1, 1, 9) -> 4; append("r1") -> 2; read() -> UOE;
                refusal(false) -> 5; refusal(true) -> 1
                """);
        Edge.test("24 read", "the reason is kept for refusal", "as the ditch is when the order comes", """
                gate(5) -> 0; garden(0, 1, 1, 9) -> 0; append("h168;r0") -> 7; read() -> UOE; refusal(false) -> 5;
                refusal(true) -> 3; account(0) -> 0; append("r0") -> 2; read() -> UOE; refusal(true) -> 1
                """);
        Edge.test("Exceptions", FIRST, "24 read: an error ahead of an order that would be refused", "gate(5) -> 0;",
                "append(\"r0;x\") -> 4; read() -> IAE; errorPosition() -> 3; refusal(false) -> NSEE; "
                + "append(\"r0\") -> 2; read() -> UOE; refusal(false) -> 4");
    }

    private static void errorPosition() {
        String latest = "or -1 if that text had no error or read has not been called";
        Edge.test("25 errorPosition", latest, "not called yet, though the input is wrong",
                "errorPosition() -> -1; append(\"x\") -> 1; errorPosition() -> -1");
        Edge.test("25 errorPosition", latest, "the latest text, not the one that is in the input", """
                append("h1x") -> 3; read() -> IAE; errorPosition() -> 2; append("y") -> 1; errorPosition() -> 2;
                read() -> IAE; errorPosition() -> 0; append("h1") -> 2; errorPosition() -> 0; read() -> 1;
                errorPosition() -> -1
                """);
        Edge.test("25 errorPosition", latest, "at 60, the length of the longest text", """
                append("h1;h1;h1;h1;h1;h1;h1;h1;h1;h1;h1;h1;h1;h1;h1;h1;h1;h1;h1;h1;") -> 60; read() -> IAE;
                errorPosition() -> 60; append("h1;h1;h1;h1;h1;h1;h1;h1;h1;h1;h1;h1;h1;h1;h1;h1;h1;h1;h1;h1x") -> 60;
                read() -> IAE; errorPosition() -> 59
                """);
    }

    private static void refusal() {
        Edge.test("26 refusal", "Returns the reason of the latest refusal", "not of one ahead of it", """
                gate(5) -> 0; gate(5) -> 1; repair(1) -> UOE; refusal(true) -> 1; repair(0) -> UOE; refusal(true) -> 0;
                garden(0, 1, 1, 3) -> 0; refusal(false) -> 4; repair(0) -> UOE; refusal(false) -> 5; refusal(true) -> 7
                """);
        Edge.test("26 refusal", "true for the detail, false for the reason", "both, as often as one likes",
                "gate(5) -> 0; repair(0) -> UOE; refusal(true) -> 0; refusal(false) -> 4; refusal(true) -> 0; "
                + "refusal(false) -> 4");
        Edge.test("26 refusal", "Returns the reason or the detail", "a detail of 0 is told",
                "gate(5) -> 0; garden(0, 1, 1, 10) -> 0; repair(0) -> 0; repair(0) -> UOE; refusal(true) -> 0; "
                + "refusal(false) -> 3");
        Edge.test("26 refusal", "if nothing was refused", "other exceptions are no refusals", """
                refusal(false) -> NSEE; refusal(true) -> NSEE; inflow(201) -> IAE; garden(0, 1, 1, 1) -> IOOBE;
                read() -> IAE; undo() -> ISE; refusal(false) -> NSEE; refusal(true) -> NSEE; gate(1) -> 0;
                repair(0) -> UOE; refusal(false) -> 4
                """);
    }

    private static void account() {
        Edge.test("27 account", "Returns an account", "it is the same when it is looked at again",
                "pass(3) -> 0; account(0) -> 3; account(0) -> 3; account(8) -> 30; account(8) -> 30");
        Edge.test("27 account", "8 for the water that came in so far, 9 for that which leaked",
                "each account from 0 to 18", """
                inflow(40) -> 10; fine(17) -> 5; gate(60) -> 0; gate(60) -> 1; garden(0, 3, 1, 43) -> 0;
                garden(0, 1, 1, 43) -> 1; garden(0, 1, 1, 43) -> 2; thief(0, true) -> false; open(0, 7, 7, true) -> 1;
                repair(1) -> UOE; repair(0) -> 2; complain(1, 0) -> 1; complain(2, 1) -> 2; pass(85) -> 10;
                complain(2, 1) -> 1; append("h12345") -> 6; account(0) -> 85; account(1) -> 40; account(2) -> 17;
                account(3) -> 2; account(4) -> 3; account(5) -> 1; account(6) -> 12; account(7) -> 107;
                account(8) -> 3400; account(9) -> 170; account(10) -> 10; account(11) -> 156; account(12) -> 3064;
                account(13) -> 2; account(14) -> 1; account(15) -> 1; account(16) -> 139; account(17) -> 6;
                account(18) -> 8; isWell() -> true
                """);
        Edge.test("27 account", "Returns the account", "0 of most of them at first",
                "account(0) -> 0; account(3) -> 0; account(6) -> 0; account(7) -> 0; account(16) -> 0; "
                + "account(18) -> 0");
        Edge.test("27 account", "if what is not from 0 to 18", "-1 and 19, the greatest and the least",
                "account(-1) -> IAE; account(19) -> IAE; account(0) -> 0; account(18) -> 0;",
                "account(" + MOST + ") -> IAE; account(" + LEAST + ") -> IAE");
    }

    private static void accountOfMuch() {
        Edge.test("27 account", "18 for the changes that can be undone", "8 and no more, and 60 characters", """
                7 * pass(1) -> 0; account(18) -> 7; pass(1) -> 0; account(18) -> 8; pass(1) -> 0; account(18) -> 8;
                undo() -> 7; account(18) -> 7; 60 * append(49) -> any; account(17) -> 60; account(18) -> 7
                """);
        Edge.test("27 account", "13 for the complaints that were heard so far", "those of all hearings", """
                gate(1) -> 0; garden(0, 1, 1, 5) -> 0; garden(0, 1, 1, 5) -> 1; thief(1, true) -> false;
                complain(0, 1) -> 1; complain(1, 0) -> 2; pass(85) -> 0; account(13) -> 2; account(14) -> 1;
                complain(0, 1) -> 1; pass(168) -> 0; account(13) -> 3; account(14) -> 1; pass(168) -> 0;
                account(13) -> 3
                """);
    }

    private static void isWell() {
        String well = "Returns whether this is so";
        Edge.test("28 isWell", well, "a new object", "isWell() -> true");
        Edge.test("28 isWell", well, "watering, theft, leaks and what runs off; undone, restored, read", """
                inflow(97) -> 10; gate(17) -> 0; gate(60) -> 1; garden(1, 7, 1, 9) -> 0; garden(0, 9, 1, 9) -> 1;
                thief(1, true) -> false; open(0, 0, 99, true) -> 100; open(1, 50, 150, true) -> 101; isWell() -> true;
                pass(1) -> 0; isWell() -> true; pass(24) -> any; isWell() -> true; save() -> 2; pass(168) -> any;
                isWell() -> true; undo() -> 7; isWell() -> true; append("i200;h200;i0;h9") -> 15; read() -> 4;
                isWell() -> true; restore() -> 2; isWell() -> true; inflow(1) -> 97; pass(200) -> any; isWell() -> true
                """);
    }

    private static void share() {
        String share = "Returns what was drunk divided by what came in, both as floats";
        Edge.test("29 share", "Returns the share of water that was drunk by watering", "not of what was stolen", """
                gate(1) -> 0; garden(0, 1, 1, 1) -> 0; thief(0, true) -> false; pass(30) -> 0; account(11) -> 18;
                share() -> 0.0
                """);
        Edge.test("29 share", share, "0, 3 of 90, and 3 of 100", """
                gate(3) -> 0; garden(0, 1, 1, 1) -> 0; pass(8) -> 0; share() -> 0; open(0, 8, 8, true) -> 1;
                pass(1) -> 3; share() -> 0.033333335; pass(1) -> 0; share() -> 0.03
                """);
        Edge.test("29 share", share, "all of it, if nothing leaks or runs off", """
                inflow(0) -> 10; gate(3) -> 0; garden(0, 1, 1, 10) -> 0; repair(0) -> 0; pass(8) -> 0; share() -> AE;
                inflow(3) -> 0; open(0, 8, 8, true) -> 1; pass(1) -> 3; account(8) -> 3; share() -> 1.0; pass(1) -> 0;
                share() -> 0.5
                """);
        Edge.test("29 share", "if no water came in", "not an hour yet, or none with an inflow",
                "share() -> AE; inflow(0) -> 10; pass(200) -> 0; share() -> AE; inflow(1) -> 0; share() -> AE; "
                + "pass(1) -> 0; share() -> 0.0");
    }

    /** Beyond 16777216 a float cannot hold each whole number, so that a quotient of doubles is not the same. */
    private static void shareOfMuch() {
        AcequiaGates ditch = new AcequiaGates();
        ditch.gate(60);
        ditch.garden(0, 1, 1, 1);
        ditch.open(0, 8, 167, true);
        ditch.inflow(199);
        for (int i = 0; i < 440; i++) {
            ditch.pass(200);
        }
        boolean isDifferent = false;
        boolean isFine = true;
        for (int i = 0; i < 15; i++) {
            ditch.pass(199);
            int drunk = ditch.account(10);
            int came = ditch.account(8);
            isFine &= ditch.share() == (float) drunk / (float) came;
            isDifferent |= (float) drunk / (float) came != (float) ((double) drunk / (double) came);
        }
        Edge.check("29 share", "both as floats", "where doubles would tell another share", isFine && isDifferent);
    }

    private static void meanThirst() {
        String mean = "Returns the sum of their thirsts divided by their number, both as doubles";
        Edge.test("30 meanThirst", "Returns the mean thirst of the gardens", "of one garden, and of all at all gates",
                """
                gate(1) -> 0; gate(1) -> 1; garden(0, 3, 1, 1) -> 0; pass(7) -> 0; meanThirst() -> 3.0;
                garden(1, 3, 1, 1) -> 1; meanThirst() -> 1.5
                """);
        Edge.test("30 meanThirst", mean, "0, and the greatest", "gate(1) -> 0; garden(0, 20, 1, 1) -> 0; "
                + "garden(0, 20, 1, 1) -> 1; meanThirst() -> 0.0; pass(24) -> 0; meanThirst() -> 99.0");
        Edge.test("30 meanThirst", mean, "a third, and a twelfth, in doubles", "gate(1) -> 0; garden(0, 1, 1, 1) -> 0; "
                + "pass(7) -> 0; garden(0, 1, 1, 1) -> 1;",
                "garden(0, 1, 1, 1) -> 2; meanThirst() -> 0.3333333333333333; undo() -> 4; undo() -> 3; undo() -> 2; "
                + "undo() -> 1;", """
                garden(0, 1, 1, 1) -> 0; garden(0, 1, 1, 1) -> 1; garden(0, 1, 1, 1) -> 2; garden(0, 1, 1, 1) -> 3;
                garden(0, 1, 1, 1) -> 4; garden(0, 1, 1, 1) -> 5; garden(0, 1, 1, 1) -> 6; garden(0, 1, 1, 1) -> 7;
                garden(0, 1, 1, 1) -> 8; garden(0, 1, 1, 1) -> 9; garden(0, 1, 1, 1) -> 10; pass(6) -> 0;
                garden(0, 1, 1, 1) -> 11; pass(1) -> 0; meanThirst() -> 1.0; undo() -> 7; undo() -> 6; pass(1) -> 0;
                garden(0, 1, 1, 1) -> 11; meanThirst() -> 0.9166666666666666
                """);
        Edge.test("30 meanThirst", "if there are none", "no garden yet, or none any more",
                "meanThirst() -> AE; gate(1) -> 0; meanThirst() -> AE; garden(0, 1, 1, 1) -> 0; meanThirst() -> 0.0; "
                + "undo() -> 1; meanThirst() -> AE");
    }
}
