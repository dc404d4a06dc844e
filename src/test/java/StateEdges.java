/** Edges of undo, of the snapshot, and of what is told "in doubt, too". */
final class StateEdges {
    private static final String IN_DOUBT = "In doubt, too";
    private static final String TWO = "gate(5) -> 0; garden(0, 1, 1, 50) -> 0; garden(0, 1, 1, 50) -> 1;";

    private StateEdges() {
    }

    static void run() {
        changes();
        latestEight();
        noChanges();
        restoreForgets();
        staysAsItIs();
        undo();
        save();
        restore();
        inDoubtOfHours();
        inDoubtOfHearings();
        inDoubtOfWhatIsTold();
    }

    private static void changes() {
        String words = "also if nothing is different then";
        same(words, "inflow", "inflow(10) -> 10");
        same(words, "fine", "fine(5) -> 5");
        same(words, "open", "open(0, 3, 4, false) -> 0");
        same(words, "thief", "thief(0, false) -> false");
        same(words, "read", "append(\"i10\") -> 3; read() -> 1");
        same(words, "read of what was shut", "append(\"s0:0-167\") -> 8; read() -> 1");
        String successful = "The changes are the successful calls of inflow, fine, gate, garden";
        undone(successful, "inflow", "inflow(11) -> 10", "account(1) -> 10");
        undone(successful, "fine", "fine(6) -> 5", "account(2) -> 5");
        undone(successful, "gate", "gate(6) -> 1", "account(3) -> 1; gateOf(1, 0) -> IOOBE");
        undone(successful, "garden", "garden(0, 1, 1, 1) -> 2", "account(4) -> 2; gardenOf(2, 0) -> IOOBE; "
                + "gateOf(0, 4) -> 2");
        undone(successful, "open", "open(0, 0, 167, true) -> 168", "gateOf(0, 3) -> 0; nextOpen(0) -> NSEE");
        undone(successful, "pay", "pay(1, 9) -> 59", "gardenOf(1, 3) -> 50; account(7) -> 100");
        undone(successful, "thief", "thief(1, true) -> false", "gardenOf(1, 5) -> 0");
        undone(successful, "complain", "complain(1, 0) -> 1", "account(5) -> 0; complaint(0, true) -> NSEE");
        undone(successful, "repair", "repair(0) -> 0", "account(15) -> 0; gateOf(0, 1) -> 5; account(7) -> 100; "
                + "account(6) -> 0");
        undone(successful, "pass", "pass(200) -> 0", "account(0) -> 0; account(8) -> 0; account(16) -> 0; "
                + "gateOf(0, 1) -> 5; account(9) -> 0");
        undone(successful, "read", "append(\"i1;h9;c0>1;o0:1-2;r0\") -> 20; read() -> 5",
                "account(1) -> 10; account(0) -> 0; account(5) -> 0; gateOf(0, 3) -> 0; account(15) -> 0");
    }

    private static void same(String words, String what, String rows) {
        Edge.test("Undo", words, what, "gate(5) -> 0; garden(0, 1, 1, 50) -> 0; account(18) -> 2;", rows,
                "; account(18) -> 3; undo() -> 2; account(4) -> 1; undo() -> 1; account(4) -> 0");
    }

    private static void undone(String words, String what, String change, String rows) {
        Edge.test("Undo", words, what, TWO, change, "; account(18) -> 4; undo() -> 3;", rows,
                "; account(18) -> 3; account(4) -> 2; account(3) -> 1");
    }

    private static void latestEight() {
        String words = "The latest 8 can be undone";
        Edge.test("Undo", words, "8 changes, to the first state", """
                inflow(1) -> 10; inflow(2) -> 1; inflow(3) -> 2; inflow(4) -> 3; inflow(5) -> 4; inflow(6) -> 5;
                inflow(7) -> 6; account(18) -> 7; inflow(8) -> 7; account(18) -> 8; undo() -> 7; account(1) -> 7;
                undo() -> 6; account(1) -> 6; undo() -> 5; account(1) -> 5; undo() -> 4; account(1) -> 4; undo() -> 3;
                account(1) -> 3; undo() -> 2; account(1) -> 2; undo() -> 1; account(1) -> 1; undo() -> 0;
                account(1) -> 10; undo() -> ISE; account(1) -> 10
                """);
        Edge.test("Undo", words, "9 changes, to the second state", """
                inflow(1) -> 10; inflow(2) -> 1; inflow(3) -> 2; inflow(4) -> 3; inflow(5) -> 4; inflow(6) -> 5;
                inflow(7) -> 6; inflow(8) -> 7; inflow(9) -> 8; account(18) -> 8; undo() -> 7; undo() -> 6; undo() -> 5;
                undo() -> 4; undo() -> 3; undo() -> 2; undo() -> 1; undo() -> 0; account(1) -> 1; undo() -> ISE;
                account(1) -> 1
                """);
        Edge.test("Undo", words, "other changes in place of undone ones", """
                inflow(1) -> 10; inflow(2) -> 1; inflow(3) -> 2; inflow(4) -> 3; inflow(5) -> 4; inflow(6) -> 5;
                inflow(7) -> 6; inflow(8) -> 7; undo() -> 7; undo() -> 6; inflow(20) -> 6; account(18) -> 7;
                inflow(21) -> 20; inflow(22) -> 21; account(18) -> 8; undo() -> 7; account(1) -> 21; undo() -> 6;
                account(1) -> 20; undo() -> 5; account(1) -> 6; undo() -> 4; account(1) -> 5; undo() -> 3; undo() -> 2;
                undo() -> 1; undo() -> 0; account(1) -> 1; undo() -> ISE
                """);
        Edge.test("Undo", words, "behind 300 changes, those of each kind", """
                gate(5) -> 0; garden(0, 1, 1, 50) -> 0; 300 * pass(1) -> 0; account(18) -> 8; pay(0, 7) -> 57;
                thief(0, true) -> false; undo() -> 7; undo() -> 6; account(0) -> 300; 6 * undo() -> any;
                account(0) -> 294; undo() -> ISE; gardenOf(0, 3) -> 50
                """);
    }

    private static void noChanges() {
        Edge.test("Undo", "The changes are the successful calls of inflow",
                "calls that throw, that look, and append, undo, save and restore are none", TWO, """
                inflow(201) -> IAE; fine(0) -> IAE; gate(0) -> IAE; garden(1, 1, 1, 1) -> IOOBE;
                open(0, 1, 0, true) -> IAE; pay(0, 0) -> IAE; thief(2, true) -> IOOBE; complain(0, 0) -> IAE;
                repair(1) -> IOOBE; pass(0) -> IAE; append("h0") -> 2; read() -> IAE; account(18) -> 3; repair(0) -> 0;
                repair(0) -> UOE; complain(0, 1) -> 1; complain(0, 1) -> UOE; append("r0") -> 2; read() -> UOE;
                account(18) -> 5; ahead(0, 9) -> 0; dryIn() -> any; bestHour(0) -> 0; thirsty(0, 0) -> 0;
                placeAgain(0) -> 0; part(0, 0) -> 0; sign(0) -> w; share() -> AE; meanThirst() -> 0.0; isWell() -> true;
                gateOf(0, 0) -> 5; gardenOf(0, 0) -> 0; complaint(0, true) -> 1; nextOpen(0) -> NSEE;
                errorPosition() -> -1; refusal(false) -> 3; save() -> 2; append("h") -> 1; account(18) -> 5;
                undo() -> 4; account(5) -> 0; undo() -> 3; gateOf(0, 1) -> 5; account(18) -> 3
                """);
    }

    private static void restoreForgets() {
        Edge.test("Undo", "restore forgets all", "8 changes behind the snapshot, those ahead of it, and itself", """
                inflow(1) -> 10; save() -> 0; 8 * inflow(7) -> any; account(18) -> 8; restore() -> 0; account(18) -> 0;
                undo() -> ISE; account(1) -> 1; inflow(2) -> 1; account(18) -> 1; undo() -> 0; account(1) -> 1;
                undo() -> ISE; restore() -> 0; undo() -> ISE
                """);
    }

    private static void staysAsItIs() {
        String stay = "The input, the error position and the reason are neither undone nor saved, and stay";
        Edge.test("Exceptions", stay, "31 undo", """
                gate(5) -> 0; inflow(9) -> 10; append("h1x") -> 3; read() -> IAE; repair(0) -> UOE; append("h2") -> 2;
                undo() -> 1; undo() -> 0; account(3) -> 0; account(17) -> 2; errorPosition() -> 2; refusal(false) -> 4;
                refusal(true) -> 0; read() -> 1; account(0) -> 2
                """);
        Edge.test("Exceptions", stay, "31 undo of a read: its text does not come back", """
                append("i5") -> 2; read() -> 1; undo() -> 0; account(1) -> 10; account(17) -> 0; read() -> IAE;
                errorPosition() -> 0; inflow(3) -> 10; append("i4") -> 2; read() -> 1; errorPosition() -> -1;
                undo() -> 1; errorPosition() -> -1
                """);
        Edge.test("Exceptions", stay, "32 save and 33 restore", """
                gate(5) -> 0; append("h") -> 1; save() -> 0; append("1x") -> 3; read() -> IAE; errorPosition() -> 2;
                repair(0) -> UOE; append("h3") -> 2; restore() -> 0; account(17) -> 2; errorPosition() -> 2;
                refusal(false) -> 4; read() -> 1; account(0) -> 3; errorPosition() -> -1; restore() -> 0;
                errorPosition() -> -1; account(17) -> 0; refusal(true) -> 0
                """);
        Edge.test("Exceptions", stay, "a snapshot of an empty input does not empty it",
                "save() -> 0; 60 * append(49) -> any; restore() -> 0; account(17) -> 60; append(\"1\") -> ISE");
    }

    private static void undo() {
        Edge.test("31 undo", "Undoes the latest change", "a hearing with a fine, and growing leaks", """
                gate(1) -> 0; garden(0, 1, 1, 20) -> 0; garden(0, 2, 1, 20) -> 1; thief(1, true) -> false;
                complain(0, 1) -> 1; pass(84) -> 0; pass(84) -> 0; gateOf(0, 1) -> 6; gardenOf(1, 5) -> 0;
                gardenOf(1, 3) -> 15; account(13) -> 1; account(14) -> 1; account(6) -> 3; undo() -> 6;
                gateOf(0, 1) -> 5; gardenOf(1, 5) -> 1; gardenOf(1, 3) -> 20; account(5) -> 1; complaint(0, true) -> 1;
                account(13) -> 0; account(14) -> 0; account(6) -> 0; account(0) -> 84; gardenOf(1, 8) -> 77;
                undo() -> 5; gardenOf(1, 8) -> -1; gardenOf(1, 7) -> 0; account(11) -> 0; account(16) -> 0
                """);
        Edge.test("31 undo", "Returns the number of changes that can still be undone", "7 of 8, 0 of 1", """
                8 * pass(1) -> 0; undo() -> 7; undo() -> 6; undo() -> 5; undo() -> 4; undo() -> 3; undo() -> 2;
                undo() -> 1; undo() -> 0; pass(1) -> 0; undo() -> 0
                """);
        Edge.test("31 undo", "if no change can be undone", "none was made, all are undone, all are forgotten", """
                undo() -> ISE; append("h1") -> 2; undo() -> ISE; save() -> 0; undo() -> ISE; read() -> 1; undo() -> 0;
                undo() -> ISE; pass(1) -> 0; restore() -> 0; undo() -> ISE; account(0) -> 0
                """);
    }

    private static void save() {
        Edge.test("32 save", "in place of an earlier one",
                "only the latest one can be restored, also when it was taken behind changes that are undone", """
                save() -> 0; gate(5) -> 0; garden(0, 1, 1, 1) -> 0; save() -> 1; garden(0, 1, 1, 1) -> 1; undo() -> 2;
                undo() -> 1; undo() -> 0; account(3) -> 0; restore() -> 1; account(3) -> 1; account(4) -> 1;
                inflow(7) -> 10; save() -> 1; inflow(8) -> 7; restore() -> 1; account(1) -> 7
                """);
        Edge.test("32 save", "Returns the gardens", "none, one, twelve", "save() -> 0; gate(5) -> 0; "
                + "garden(0, 1, 1, 9) -> 0; save() -> 1; undo() -> 1; save() -> 0;", Edge.gardens(12),
                "save() -> 12; account(18) -> 8");
    }

    private static void restore() {
        String everything = "Makes everything that changes can change as it is in the snapshot, which stays";
        Edge.test("33 restore", everything, "a full ditch, from an empty one", Edge.gates(6), Edge.gardens(12), """
                open(5, 0, 9, true) -> 10; thief(11, true) -> false; complain(11, 0) -> 1; fine(9) -> 5; pass(30) -> 0;
                save() -> 12; 8 * undo() -> any; account(4) -> 9; restore() -> 12; account(0) -> 30; account(3) -> 6;
                account(4) -> 12; account(5) -> 1; account(2) -> 9; gateOf(5, 3) -> 10; gateOf(5, 5) -> 40;
                gardenOf(11, 5) -> 1; complaint(0, false) -> 11; complaint(0, true) -> 0; account(18) -> 0
                """);
        Edge.test("33 restore", everything, "an empty ditch, from a full one, again and again", "save() -> 0;",
                Edge.gates(6), Edge.gardens(12), """
                complain(1, 2) -> 1; pass(200) -> 0; restore() -> 0; account(3) -> 0; account(4) -> 0; account(5) -> 0;
                account(0) -> 0; account(8) -> 0; account(1) -> 10; gate(5) -> 0; gateOf(0, 3) -> 0; inflow(3) -> 10;
                restore() -> 0; account(1) -> 10; account(3) -> 0; restore() -> 0
                """);
        Edge.test("33 restore", "Returns the gardens", "none, one, twelve", "save() -> 0; restore() -> 0; "
                + "gate(5) -> 0; garden(0, 1, 1, 9) -> 0; save() -> 1; undo() -> 1; restore() -> 1; undo() -> ISE;",
                "save() -> 1; restore() -> 1;", Edge.gardens(12).replaceFirst("^[^;]*;", ""),
                "save() -> 12; 3 * undo() -> any; account(4) -> 9; restore() -> 12");
        Edge.test("33 restore", "if there is no snapshot", "changes make none, save does",
                "restore() -> ISE; gate(5) -> 0; restore() -> ISE; undo() -> 0; restore() -> ISE; save() -> 0; "
                + "restore() -> 0; restore() -> 0");
    }

    private static void inDoubtOfHours() {
        Edge.test(IN_DOUBT, "A stretch leaks also if its gate is shut", "of six shut gates", Edge.gates(6),
                "inflow(200) -> 10; pass(1) -> 0; account(9) -> 55; account(12) -> 145");
        String growth = "Gardens are watered by their thirsts behind the growth of this hour";
        Edge.test(IN_DOUBT, growth, "a garden without a thirst drinks in its first hour of the day",
                "gate(60) -> 0; garden(0, 4, 1, 1) -> 0; open(0, 5, 6, true) -> 2; pass(6) -> 0; pass(1) -> 4; "
                + "gardenOf(0, 4) -> 0");
        Edge.test(IN_DOUBT, growth, "the order is that behind the growth", """
                gate(3) -> 0; garden(0, 1, 9, 1) -> 0; pass(9) -> 0; garden(0, 5, 1, 1) -> 1; gardenOf(0, 4) -> 3;
                open(0, 9, 9, true) -> 1; thirsty(0, 0) -> 0; pass(1) -> 3; gardenOf(1, 6) -> 3; gardenOf(0, 6) -> 0
                """);
        Edge.test(IN_DOUBT, growth, "by night there is none", "gate(60) -> 0; garden(0, 4, 1, 1) -> 0; "
                + "open(0, 0, 5, true) -> 6; pass(6) -> 0; gateOf(0, 6) -> 54");
        String noted = "An hour in which a garden could steal nothing is not noted";
        Edge.test(IN_DOUBT, noted, "it did not thirst", """
                gate(1) -> 0; garden(0, 1, 1, 1) -> 0; thief(0, true) -> false; pass(6) -> 0; gardenOf(0, 8) -> -1;
                pass(24) -> 0; gardenOf(0, 8) -> 29; pass(18) -> 0; inflow(200) -> 10; open(0, 47, 47, true) -> 1;
                pass(6) -> 0; gardenOf(0, 4) -> 0; gardenOf(0, 8) -> 53
                """);
        Edge.test(IN_DOUBT, noted, "its thirst ended an hour earlier", """
                gate(1) -> 0; pass(21) -> 0; garden(0, 1, 1, 1) -> 0; thief(0, true) -> false; pass(4) -> 0;
                gardenOf(0, 4) -> 0; gardenOf(0, 8) -> 24; pass(5) -> 0; gardenOf(0, 8) -> 24; gardenOf(0, 7) -> 3
                """);
        Edge.test(IN_DOUBT, noted, "another thief was ahead of it and left nothing", """
                gate(1) -> 0; garden(0, 20, 1, 1) -> 0; garden(0, 20, 1, 1) -> 1; thief(0, true) -> false;
                thief(1, true) -> false; pass(25) -> 0; gardenOf(0, 8) -> 24; gardenOf(0, 7) -> 9; gardenOf(1, 8) -> -1;
                gardenOf(1, 7) -> 0; gardenOf(1, 5) -> 1
                """);
    }

    private static void inDoubtOfHearings() {
        String again = "A garden that was found guilty is found so again by a second complaint in the same hearing";
        Edge.test(IN_DOUBT, again, "it pays twice, and is no thief any more behind the first", """
                gate(1) -> 0; garden(0, 1, 1, 20) -> 0; garden(0, 2, 1, 20) -> 1; garden(0, 1, 1, 20) -> 2;
                thief(1, true) -> false; complain(0, 1) -> 1; complain(2, 1) -> 2; pass(85) -> 0; account(14) -> 2;
                gardenOf(1, 3) -> 10; gardenOf(0, 3) -> 22; gardenOf(2, 3) -> 22; account(6) -> 6; gardenOf(1, 5) -> 0
                """);
        Edge.test(IN_DOUBT, again, "the fine of the hearing, not those of the complaints", """
                gate(1) -> 0; garden(0, 1, 1, 20) -> 0; garden(0, 2, 1, 20) -> 1; garden(0, 1, 1, 20) -> 2;
                thief(1, true) -> false; fine(1) -> 5; complain(0, 1) -> 1; fine(30) -> 1; complain(2, 1) -> 2;
                fine(7) -> 30; pass(84) -> 0; fine(9) -> 7; pass(1) -> 0; account(14) -> 2; gardenOf(1, 3) -> 2;
                gardenOf(0, 3) -> 24; gardenOf(2, 3) -> 24; account(6) -> 10
                """);
        Edge.test(IN_DOUBT, again, "what it got in between pays for the second", """
                gate(1) -> 0; garden(0, 1, 1, 20) -> 0; garden(0, 2, 1, 5) -> 1; garden(0, 2, 1, 20) -> 2;
                thief(1, true) -> false; thief(2, true) -> false; inflow(50) -> 10; complain(0, 1) -> 1;
                complain(1, 2) -> 2; complain(2, 1) -> 3; pass(85) -> 0; account(14) -> 3; gardenOf(0, 3) -> 22;
                gardenOf(1, 3) -> 0; gardenOf(2, 3) -> 16; account(6) -> 7
                """);
    }

    private static void inDoubtOfWhatIsTold() {
        Edge.test(IN_DOUBT, "What a gate took is told with what ran back from it",
                "12 gateOf, 20 ahead and 22 bestHour", """
                gate(6) -> 0; open(0, 0, 0, true) -> 1; ahead(0, 1) -> 6; bestHour(0) -> 1; pass(1) -> 0;
                gateOf(0, 5) -> 6; gateOf(0, 6) -> 6
                """);
        Edge.test(IN_DOUBT, "Hours that are told are counted from 0, not within a week",
                "13 nextOpen, 14 gardenOf, 22 bestHour, 27 account", """
                gate(1) -> 0; garden(0, 1, 1, 1) -> 0; thief(0, true) -> false; open(0, 30, 30, true) -> 1;
                pass(168) -> 1; pass(29) -> 0; account(0) -> 197; nextOpen(0) -> 198; gardenOf(0, 8) -> 196;
                bestHour(0) -> 197; pass(1) -> 0; nextOpen(0) -> 198; bestHour(0) -> 199; gardenOf(0, 8) -> 197
                """);
        Edge.test(IN_DOUBT, "A text without an error has no error position, also if it is refused",
                "behind a text that had one", "gate(5) -> 0;", """
                append("r") -> 1; read() -> IAE; errorPosition() -> 1; append("r0") -> 2; read() -> UOE;
                errorPosition() -> -1; append("r") -> 1; read() -> IAE; errorPosition() -> 1; append("h0") -> 2;
                read() -> IAE; errorPosition() -> -1
                """);
    }
}
