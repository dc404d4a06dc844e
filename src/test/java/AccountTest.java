/** Promises 27 to 33: accounts, undo and the snapshot. */
final class AccountTest {
    private static final String IAE = "-> throws IllegalArgumentException;";
    private static final String ISE = "-> throws IllegalStateException;";
    private static final String IOOBE = "-> throws IndexOutOfBoundsException;";
    private static final String UOE = "-> throws UnsupportedOperationException;";
    private static final String NSEE = "-> throws NoSuchElementException;";
    private static final String DAY_BY_DAY = "inflow(50) -> 10; gate(20) -> 0; garden(0, 4, 2, 30) -> 0;"
            + "garden(0, 2, 1, 5) -> 1; open(0, 8, 20, true) -> 13; pass(11) -> 30;";

    private AccountTest() {
    }

    public static void main(String[] args) {
        account();
        shareAndMeanThirst();
        undoOfEachChange();
        undo();
        saveAndRestore();
        Script.close("AccountTest");
    }

    private static void account() {
        Script.run("27 and 28 account, isWell", DAY_BY_DAY,
                "account(0) -> 11; account(1) -> 50; account(2) -> 5; account(3) -> 1; account(4) -> 2; account(5) -> 0;",
                "account(6) -> 0; account(7) -> 35; account(8) -> 550; account(9) -> 33; account(10) -> 30;",
                "account(11) -> 0; account(12) -> 487; account(13) -> 0; account(14) -> 0; account(15) -> 0;",
                "account(16) -> 0; account(17) -> 0; account(18) -> 6; account(19)", IAE, "account(-1)", IAE,
                "account(2147483647)", IAE, "isWell() -> true; repair(0) -> 1; account(6) -> 1; account(7) -> 24;",
                "account(15) -> 1; thief(1, true) -> false; complain(0, 1) -> 1; account(5) -> 1; pass(73) -> 60;",
                "account(11) -> 78; isWell() -> true; pass(1) -> 0; account(5) -> 0; account(13) -> 1;",
                "account(14) -> 1; account(6) -> 2; account(7) -> 23; isWell() -> true; append(\"h2\") -> 2;",
                "account(17) -> 2; account(18) -> 8; undo() -> 7; isWell() -> true; account(17) -> 2; fine(9) -> 5;",
                "account(2) -> 9");
    }

    private static void shareAndMeanThirst() {
        AcequiaGates ditch = new AcequiaGates();
        Script.check("29 no water came in", "throws ArithmeticException".equals(Script.answer(ditch, "share()")));
        Script.check("30 no gardens", "throws ArithmeticException".equals(Script.answer(ditch, "meanThirst()")));
        ditch.inflow(0);
        ditch.pass(5);
        Script.check("29 no water yet", "throws ArithmeticException".equals(Script.answer(ditch, "share()")));
        ditch.inflow(11);
        ditch.gate(60);
        ditch.garden(0, 1, 1, 0);
        Script.check("30 no thirst", ditch.meanThirst() == 0.0);
        ditch.garden(0, 2, 1, 0);
        ditch.garden(0, 4, 1, 0);
        ditch.pass(2);
        Script.check("29 nothing was drunk", ditch.share() == 0.0f);
        Script.check("30 a mean of a third", ditch.meanThirst() == 7.0 / 3.0);
        ditch.open(0, 7, 7, true);
        ditch.pass(1);
        Script.check("29 ten of 33", ditch.share() == 10.0f / 33.0f);
        Script.check("30 four of three", ditch.meanThirst() == 4.0 / 3.0);
    }

    private static void undoOfEachChange() {
        Script.run("31 undo of each kind of change",
                "inflow(3) -> 10; undo() -> 0; account(1) -> 10; fine(3) -> 5; undo() -> 0; account(2) -> 5;",
                "gate(3) -> 0; undo() -> 0; account(3) -> 0; gate(4) -> 0; gateOf(0, 0) -> 4; garden(0, 1, 1, 1) -> 0;",
                "undo() -> 1; account(4) -> 0; gardenOf(0, 0)", IOOBE, "garden(0, 2, 2, 20) -> 0; garden(0, 3, 3, 30) -> 1;",
                "open(0, 1, 9, true) -> 9; undo() -> 3; gateOf(0, 3) -> 0; nextOpen(0)", NSEE,
                "pay(1, 9) -> 39; undo() -> 3; gardenOf(1, 3) -> 30; thief(1, true) -> false; undo() -> 3;",
                "gardenOf(1, 5) -> 0; complain(1, 0) -> 1; undo() -> 3; account(5) -> 0; repair(0) -> 0;",
                "account(7) -> 40; undo() -> 3; account(7) -> 50; account(6) -> 0; account(15) -> 0; gateOf(0, 1) -> 5;",
                "pass(20) -> 0; undo() -> 3; account(0) -> 0; account(8) -> 0; account(16) -> 0; append(\"h9;r0\") -> 5;",
                "read() -> 2; undo() -> 3; account(0) -> 0; gateOf(0, 1) -> 5; undo() -> 2; undo() -> 1; undo() -> 0;",
                "account(3) -> 0; undo()", ISE);
        Script.run("31 undo of thefts and a hearing",
                "gate(4) -> 0; garden(0, 2, 1, 20) -> 0; garden(0, 2, 1, 20) -> 1; thief(0, true) -> false;",
                "complain(1, 0) -> 1; pass(84) -> 0; pass(1) -> 0; account(6) -> 3; gardenOf(0, 5) -> 0;",
                "undo() -> 6; account(6) -> 0; gardenOf(0, 5) -> 1; gardenOf(0, 3) -> 20; gardenOf(1, 3) -> 20;",
                "account(5) -> 1; complaint(0, true) -> 0; account(13) -> 0; account(14) -> 0; undo() -> 5;",
                "gardenOf(0, 8) -> -1; gardenOf(0, 7) -> 0; account(11) -> 0; account(12) -> 0; pass(85) -> 0;",
                "account(6) -> 3");
    }

    private static void undo() {
        Script.run("31 the latest 8 changes",
                "undo()", ISE, "inflow(1) -> 10; inflow(2) -> 1; inflow(3) -> 2; inflow(4) -> 3; inflow(5) -> 4;",
                "inflow(6) -> 5; inflow(7) -> 6; inflow(8) -> 7; account(18) -> 8; inflow(9) -> 8; inflow(10) -> 9;",
                "account(18) -> 8; undo() -> 7; account(1) -> 9; undo() -> 6; undo() -> 5; inflow(20) -> 7; account(18) -> 6;",
                "undo() -> 5; account(1) -> 7; undo() -> 4; undo() -> 3; undo() -> 2; undo() -> 1; undo() -> 0;",
                "account(1) -> 2; undo()", ISE, "account(1) -> 2; inflow(3) -> 2; undo() -> 0; account(1) -> 2");
        Script.run("31 what is no change, and what is none by its exception",
                "gate(5) -> 0; garden(0, 1, 1, 1) -> 0; ahead(0, 5) -> 0; dryIn() -> 135; bestHour(0) -> 0;",
                "append(\"h\") -> 1; read()", IAE, "save() -> 1; repair(0)", UOE, "inflow(-1)", IAE, "account(18) -> 2;",
                "thief(0, false) -> false; account(18) -> 3; open(0, 0, 0, false) -> 0; account(18) -> 4; undo() -> 3");
    }

    private static void saveAndRestore() {
        Script.run("32 and 33 save and restore",
                "restore()", ISE, "save() -> 0; inflow(9) -> 10; restore() -> 0; account(1) -> 10; account(18) -> 0;",
                "undo()", ISE, DAY_BY_DAY, "thief(0, true) -> false; complain(1, 0) -> 1; fine(7) -> 5; save() -> 2;",
                "account(18) -> 8; undo() -> 7; account(2) -> 5; pass(160) -> 60; repair(0) -> 3; garden(0, 1, 1, 1) -> 2;",
                "gate(7) -> 1; open(0, 0, 167, true) -> 168; pay(0, 9) -> 26; restore() -> 2;",
                "account(0) -> 11; account(1) -> 50; account(2) -> 7; account(3) -> 1; account(4) -> 2; account(5) -> 1;",
                "account(6) -> 0; account(7) -> 35; account(8) -> 550; account(9) -> 33; account(10) -> 30;",
                "account(11) -> 0; account(12) -> 487; account(13) -> 0; account(15) -> 0; account(16) -> 0;",
                "account(18) -> 0; gateOf(0, 1) -> 5; gateOf(0, 3) -> 13; gateOf(0, 5) -> 60; gardenOf(0, 5) -> 1;",
                "complaint(0, false) -> 1; undo()", ISE, "inflow(1) -> 50; undo() -> 0; fine(1) -> 7; restore() -> 2;",
                "account(2) -> 7; account(18) -> 0");
        Script.run("33 restore over other gates and gardens",
                "gate(9) -> 0; gate(3) -> 1; open(1, 3, 3, true) -> 1; open(1, 24, 25, true) -> 3;",
                "garden(1, 2, 1, 9) -> 0; thief(0, true) -> false; pass(26) -> 6; save() -> 1; undo() -> 6; undo() -> 5;",
                "undo() -> 4; undo() -> 3; undo() -> 2; undo() -> 1; undo() -> 0; gate(50) -> 0; garden(0, 7, 7, 77) -> 0;",
                "garden(0, 6, 6, 66) -> 1; open(0, 0, 167, true) -> 168; pass(100) -> 846; restore() -> 1;",
                "account(3) -> 2; account(4) -> 1; gardenOf(0, 0) -> 1; gardenOf(0, 1) -> 2; gardenOf(0, 2) -> 1;",
                "gardenOf(0, 3) -> 9; gardenOf(0, 4) -> 20; gardenOf(0, 5) -> 1; gardenOf(0, 6) -> 6; gardenOf(0, 7) -> 10;",
                "gardenOf(0, 8) -> 25; gateOf(0, 0) -> 9; gateOf(0, 3) -> 0; gateOf(1, 0) -> 3; gateOf(1, 3) -> 3;",
                "gateOf(1, 5) -> 9; gateOf(1, 6) -> 3; gateOf(0, 5) -> 0; gardenOf(1, 0)", IOOBE, "account(0) -> 26;",
                "isWell() -> true");
        Script.run("32 a snapshot in place of an earlier one, of changes alone",
                "save() -> 0; gate(2) -> 0; garden(0, 1, 1, 1) -> 0; save() -> 1; append(\"h1\") -> 2; inflow(0) -> 10;",
                "restore() -> 1; account(3) -> 1; account(17) -> 2; read() -> 1; restore() -> 1; account(0) -> 0;",
                "account(17) -> 0; undo()", ISE);
    }
}
