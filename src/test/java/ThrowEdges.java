import java.util.ArrayList;
import java.util.Arrays;
import java.util.List;
import java.util.Map;

/**
 * "A method that throws an exception leaves the state unchanged unless its documentation says otherwise": for each
 * exception of each method, two objects are made alike, one of them makes the call that throws, and both are compared
 * at once, behind each number of undos, a restore, a week, and what was in the input.
 */
final class ThrowEdges {
    private static final String WORDS = "A method that throws an exception leaves the state unchanged";

    /** Nothing is there, and nothing was. */
    private static final String EMPTY = "";
    /** Gates, gardens, complaints and undos are full; there is a reason, an error position and a snapshot. */
    private static final String FULL = """
            inflow(77) -> any; gate(9) -> any; gate(20) -> any; gate(1) -> any; gate(60) -> any; gate(5) -> any;
            gate(30) -> any; garden(0, 1, 1, 9) -> any; garden(0, 2, 3, 20) -> any; garden(1, 3, 9, 30) -> any;
            garden(1, 20, 1, 0) -> any; garden(2, 5, 2, 1) -> any; garden(2, 1, 1, 99) -> any;
            garden(3, 1, 1, 9) -> any; garden(3, 4, 4, 9) -> any; garden(4, 6, 1, 50) -> any;
            garden(4, 1, 1, 50) -> any; garden(5, 7, 5, 50) -> any; garden(5, 1, 1, 90) -> any;
            open(0, 0, 167, true) -> any; open(2, 8, 70, true) -> any; open(5, 100, 167, true) -> any;
            thief(1, true) -> any; thief(11, true) -> any; pass(50) -> any; save() -> any; complain(0, 1) -> any;
            complain(1, 0) -> any; complain(2, 3) -> any; complain(0, 11) -> any; complain(4, 5) -> any;
            complain(5, 6) -> any; complain(7, 8) -> any; complain(9, 1) -> any; repair(5) -> any; repair(5) -> UOE;
            fine(9) -> any; pass(20) -> any; thief(0, true) -> any; open(3, 1, 2, true) -> any; pay(3, 7) -> any;
            append("h1x") -> any; read() -> IAE; append("h7;i3") -> any;
            """;
    /** Some of all is there, so that there is room for more. */
    private static final String SOME = """
            gate(9) -> any; gate(20) -> any; garden(0, 1, 1, 9) -> any; garden(0, 2, 3, 20) -> any;
            garden(0, 3, 1, 0) -> any; open(0, 0, 167, true) -> any; complain(0, 1) -> any; pass(9) -> any;
            append("i6") -> any;
            """;

    private ThrowEdges() {
    }

    static void run() {
        changes();
        refusals();
        looks();
        inputs();
        answers();
        reads();
    }

    private static void changes() {
        unchanged("2 inflow", FULL, "inflow(-1) -> IAE");
        unchanged("2 inflow", FULL, "inflow(201) -> IAE");
        unchanged("3 fine", FULL, "fine(0) -> IAE");
        unchanged("3 fine", FULL, "fine(31) -> IAE");
        unchanged("4 gate", FULL, "gate(0) -> IAE");
        unchanged("4 gate", SOME, "gate(61) -> IAE");
        unchanged("5 garden", EMPTY, "garden(0, 1, 1, 1) -> IOOBE");
        unchanged("5 garden", SOME, "garden(2, 1, 1, 1) -> IOOBE");
        unchanged("5 garden", SOME, "garden(0, 21, 1, 1) -> IAE");
        unchanged("5 garden", SOME, "garden(0, 1, 0, 1) -> IAE");
        unchanged("5 garden", SOME, "garden(0, 1, 1, 100) -> IAE");
        unchanged("6 open", FULL, "open(6, 0, 9, true) -> IOOBE");
        unchanged("6 open", FULL, "open(1, 0, 168, true) -> IAE");
        unchanged("6 open", FULL, "open(1, 9, 8, true) -> IAE");
        unchanged("6 open", FULL, "open(0, -1, 8, false) -> IAE");
        unchanged("7 pay", FULL, "pay(12, 1) -> IOOBE");
        unchanged("7 pay", FULL, "pay(0, 0) -> IAE");
        unchanged("7 pay", FULL, "pay(0, 100) -> IAE");
        unchanged("8 thief", FULL, "thief(12, true) -> IOOBE");
        unchanged("8 thief", SOME, "thief(3, true) -> IOOBE");
        unchanged("9 complain", SOME, "complain(0, 3) -> IOOBE");
        unchanged("9 complain", SOME, "complain(3, 0) -> IOOBE");
        unchanged("9 complain", SOME, "complain(2, 2) -> IAE");
        unchanged("10 repair", FULL, "repair(6) -> IOOBE");
        unchanged("11 pass", FULL, "pass(0) -> IAE");
        unchanged("11 pass", FULL, "pass(201) -> IAE");
    }

    private static void refusals() {
        refused("4 gate", FULL, "gate(9) -> UOE", 1, 6);
        refused("5 garden", FULL, "garden(0, 1, 1, 1) -> UOE", 1, 12);
        refused("9 complain", FULL, "complain(4, 5) -> UOE", 2, 4);
        refused("9 complain", FULL, "complain(5, 4) -> UOE", 1, 8);
        refused("9 complain", SOME, "complain(0, 1) -> UOE", 2, 0);
        refused("10 repair", FULL, "repair(5) -> UOE", 3, 5);
        refused("10 repair", SOME, "repair(1) -> UOE", 4, 1);
        refused("10 repair", SOME, "repair(0) -> UOE", 5, 2);
    }

    private static void looks() {
        for (String set : new String[] {EMPTY, FULL}) {
            unchanged("12 gateOf", set, "gateOf(6, 0) -> IOOBE");
            unchanged("13 nextOpen", set, "nextOpen(6) -> IOOBE");
            unchanged("14 gardenOf", set, "gardenOf(12, 0) -> IOOBE");
            unchanged("15 thirsty", set, "thirsty(6, 0) -> IOOBE");
            unchanged("16 placeAgain", set, "placeAgain(12) -> IOOBE");
            unchanged("17 complaint", set, "complaint(8, true) -> NSEE");
            unchanged("18 sign", set, "sign(12) -> IOOBE");
            unchanged("19 part", set, "part(12, 0) -> IOOBE");
            unchanged("20 ahead", set, "ahead(6, 1) -> IOOBE");
            unchanged("22 bestHour", set, "bestHour(6) -> IOOBE");
            unchanged("27 account", set, "account(19) -> IAE");
        }
        unchanged("12 gateOf", FULL, "gateOf(5, 7) -> IAE");
        unchanged("13 nextOpen", FULL, "nextOpen(1) -> NSEE");
        unchanged("14 gardenOf", FULL, "gardenOf(11, 9) -> IAE");
        unchanged("15 thirsty", FULL, "thirsty(5, 2) -> NSEE");
        unchanged("19 part", FULL, "part(0, 6) -> IOOBE");
        unchanged("20 ahead", FULL, "ahead(5, 201) -> IAE");
        unchanged("21 dryIn", EMPTY, "dryIn() -> NSEE");
        unchanged("21 dryIn", "gate(60) -> any; garden(0, 1, 1, 1) -> any; open(0, 0, 167, true) -> any;",
                "dryIn() -> NSEE");
        unchanged("22 bestHour", FULL, "bestHour(0) -> NSEE");
    }

    private static void inputs() {
        unchanged("23 append", FULL + "5 * append(49) -> any; 50 * append(57) -> any;", "append(\"9\") -> ISE");
        unchanged("26 refusal", EMPTY, "refusal(false) -> NSEE");
        unchanged("26 refusal", SOME, "refusal(true) -> NSEE");
        unchanged("29 share", EMPTY, "share() -> AE");
        unchanged("30 meanThirst", EMPTY, "meanThirst() -> AE");
        unchanged("31 undo", EMPTY, "undo() -> ISE");
        unchanged("31 undo", FULL + "restore() -> any;", "undo() -> ISE");
        unchanged("33 restore", EMPTY, "restore() -> ISE");
        unchanged("33 restore", SOME, "restore() -> ISE");
    }

    /** Calls that look and answer are no changes either, whatever they try in between. */
    private static void answers() {
        String looks = """
                ahead(0, 200) -> any; ahead(5, 200) -> any; dryIn() -> any; bestHour(5) -> any; bestHour(1) -> any;
                nextOpen(2) -> any; thirsty(1, 1) -> any; thirsty(5, 0) -> any; placeAgain(11) -> any;
                gateOf(2, 2) -> any; gateOf(5, 4) -> any; gardenOf(3, 8) -> any; complaint(7, true) -> any;
                sign(4) -> any; part(11, 0) -> any; errorPosition() -> any; refusal(true) -> any; account(7) -> any;
                isWell() -> any; share() -> any; meanThirst() -> any;
                """;
        String words = "The changes are the successful calls of inflow";
        String title = Edge.title("Undo", words, "calls that look change nothing");
        Edge.check("Undo", words, "calls that look change nothing", isSame(title, FULL, FULL + looks));
    }

    /** What read says of its exceptions: the input is empty then, there is an error position or none, and a reason. */
    private static void reads() {
        read(FULL, "x", "IAE", 5);
        read(FULL, ";h0", "IAE", -1);
        read(FULL, ";h5;o6:1-2", "IAE", -1);
        read(FULL, ";r0;c4>5", "UOE", -1, "refusal(false)", "2", "refusal(true)", "4");
        read(FULL, ";i0;h9;r0;r5", "UOE", -1, "refusal(false)", "3", "refusal(true)", "5");
        read(SOME, ";c1>0;", "IAE", 8);
        read(SOME, ";c1>0;r1", "UOE", -1, "refusal(false)", "4", "refusal(true)", "1");
        read(SOME, ";h200;i201", "IAE", -1);
        read(EMPTY, "", "IAE", 0);
        read(EMPTY, "i9;r0", "IAE", -1);
    }

    private static void unchanged(String place, String setUp, String call) {
        compare(place + " " + call, setUp, call);
    }

    private static void refused(String place, String setUp, String call, int reason, int detail) {
        compare(place + " " + call, setUp, call, "refusal(false)", String.valueOf(reason), "refusal(true)",
                String.valueOf(detail));
    }

    /** The text is appended to what the input holds already. */
    private static void read(String setUp, String text, String thrown, int position, String... reason) {
        String append = text.isEmpty() ? "" : "append(\"" + text + "\") -> any;";
        String[] due = Arrays.copyOf(new String[] {"account(17)", "0", "errorPosition()", String.valueOf(position)}, 4
                + reason.length);
        System.arraycopy(reason, 0, due, 4, reason.length);
        compare("24 read behind \"" + text + "\"", setUp, append + "read() -> " + thrown, due);
    }

    private static void compare(String what, String setUp, String calls, String... due) {
        String from = setUp.equals(EMPTY) ? " from nothing" : setUp.startsWith(FULL) ? " from a full ditch"
                : " from some gardens";
        String title = Edge.title("Exceptions", WORDS, what + from);
        Edge.check("Exceptions", WORDS, what + from, isSame(title, setUp, setUp + calls + ";", due));
    }

    /** Whether both scripts lead to the same, but for the answers that are due; each follow-up begins anew. */
    private static boolean isSame(String title, String one, String other, String... due) {
        boolean isFine = true;
        for (String followUp : followUps(one, due.length > 0 && due[0].equals("account(17)"))) {
            isFine &= isSameBehind(title, one + followUp, other + followUp, due);
        }
        return isFine;
    }

    /** Nothing, a week, each number of undos, the snapshot, and the input, as far as they can be. */
    private static List<String> followUps(String script, boolean isInputUsed) {
        List<String> followUps = new ArrayList<>(List.of("", "pass(168) -> any;"));
        AcequiaGates probe = new AcequiaGates();
        Script.isRunFine(probe, "what can follow", script);
        for (int i = 1; i <= probe.account(18); i++) {
            followUps.add("undo() -> any; ".repeat(i));
        }
        for (String call : new String[] {"restore()", "read()"}) {
            boolean isUsed = call.equals("read()") && isInputUsed;
            if (!isUsed && !Script.answer(probe, call).startsWith("throws")) {
                followUps.add(call + " -> any;");
            }
        }
        return followUps;
    }

    private static boolean isSameBehind(String title, String one, String other, String... due) {
        AcequiaGates first = new AcequiaGates();
        AcequiaGates second = new AcequiaGates();
        boolean isFine = Script.isRunFine(first, title, one) & Script.isRunFine(second, title, other);
        Map<String, String> before = Looks.of(first);
        Map<String, String> after = Looks.of(second);
        for (int i = 0; i < due.length; i += 2) {
            before.put(due[i], due[i + 1]);
        }
        for (Map.Entry<String, String> look : before.entrySet()) {
            String got = after.get(look.getKey());
            if (!look.getValue().equals(got)) {
                System.out.println(title + ": " + look.getKey() + " answers " + got + ", due is " + look.getValue()
                        + ", behind " + other);
                isFine = false;
            }
        }
        return isFine;
    }
}
