import java.util.regex.Matcher;
import java.util.regex.Pattern;

/** Edges of texts: their length, their numbers, and where an error is. */
final class TextEdges {
    private static final String ORDER = "([os]\\d:\\d{1,3}-\\d{1,3}|[hi]\\d{1,3}|c\\d{1,2}>\\d{1,2}|r\\d)";
    private static final Pattern TEXT = Pattern.compile(ORDER + "(;" + ORDER + ")*");
    private static final char[] SIGNS = "ohcr:->;1".toCharArray();
    private static final int MOST_SIGNS_OF_ALL = 5;

    private static final String DITCH = Edge.gates(6) + Edge.gardens(12);

    private TextEdges() {
    }

    static void run() {
        length();
        opens();
        shuts();
        hours();
        inflows();
        complaints();
        repairs();
        semicolons();
        digits();
        endsTooEarly();
        wrongSigns();
        everyText();
        carriedOut();
        notCarriedOut();
    }

    private static void length() {
        String most = "The input has at most 60 characters";
        Edge.test("Texts", most, "59, 60, and no more", """
                append("i1;i2;i3;i4;i5;i6;i7;i8;i9;i1;i2;i3;i4;i5;i6;i7;i8;i9;i1;i2") -> 59; account(17) -> 59;
                append("0") -> 60; append("0") -> ISE; append(";") -> ISE; account(17) -> 60; read() -> 20;
                account(1) -> 20; account(17) -> 0
                """);
        Edge.test("Texts", most, "twelve orders fill it, then it is empty, and can be filled again", """
                append("h001;h002;h003;h004;h005;h006;h007;h008;h009;h010;h011;h0012") -> 60; read() -> IAE;
                errorPosition() -> 59; append("h001;h002;h003;h004;h005;h006;h007;h008;h009;h010;h011;h012;") -> 60;
                read() -> IAE; errorPosition() -> 60; account(0) -> 0;
                append("h001;h002;h003;h004;h005;h006;h007;h008;h009;h010;h011;h012") -> 59; read() -> 12;
                account(0) -> 78
                """);
    }

    private static void fine(String words, String text, String... rows) {
        int orders = text.split(";").length;
        Edge.test("Texts", words, "\"" + text + "\" is carried out", DITCH, "append(\"" + text + "\") -> "
                + text.length() + "; read() -> "
                + orders + "; errorPosition() -> -1; account(17) -> 0;", String.join(" ", rows));
    }

    private static void wrong(String words, String text) {
        Edge.test("Texts", words, "\"" + text + "\" is no error, but cannot be carried out", DITCH, "append(\"" + text
                + "\") -> "
                + text.length() + "; read() -> IAE; errorPosition() -> -1; account(17) -> 0; account(0) -> 0; "
                + "account(1) -> 10;",
                "account(5) -> 0; gateOf(0, 3) -> 0; gateOf(5, 3) -> 0; account(15) -> 0; account(18) -> 8");
    }

    private static void error(String words, String text, int position) {
        String appended = text.isEmpty() ? "" : "append(\"" + text + "\") -> " + text.length() + ";";
        Edge.test("Texts", words, "\"" + text + "\" has its error at " + position, DITCH, appended,
                "read() -> IAE; errorPosition() -> " + position + "; account(17) -> 0; account(0) -> 0; "
                + "account(1) -> 10;",
                "account(5) -> 0; gateOf(0, 3) -> 0; account(15) -> 0; refusal(false) -> NSEE; account(18) -> 8");
    }

    private static void opens() {
        String words = "opens a gate in all hours of the week from the one to the other one";
        fine(words, "o0:0-167", "gateOf(0, 3) -> 168; gateOf(1, 3) -> 0");
        fine(words, "o0:0-0", "gateOf(0, 3) -> 1; nextOpen(0) -> 0");
        fine(words, "o5:167-167", "gateOf(5, 3) -> 1; nextOpen(5) -> 167");
        fine(words, "o5:166-167", "gateOf(5, 3) -> 2; nextOpen(5) -> 166");
        wrong(words, "o0:168-168");
        wrong(words, "o0:0-168");
        wrong(words, "o0:167-166");
        wrong(words, "o0:1-0");
        wrong(words, "o0:999-999");
        wrong(words, "o6:0-1");
        wrong(words, "o9:0-1");
    }

    private static void shuts() {
        String words = "\"s\" and the same shuts it in these";
        fine(words, "o0:0-167;s0:0-167", "gateOf(0, 3) -> 0; nextOpen(0) -> NSEE");
        fine(words, "o0:0-167;s0:0-0", "gateOf(0, 3) -> 167; nextOpen(0) -> 1");
        fine(words, "o5:165-167;s5:166-167", "gateOf(5, 3) -> 1; nextOpen(5) -> 165");
        fine(words, "s5:0-167", "gateOf(5, 3) -> 0");
        wrong(words, "o0:0-1;s0:0-168");
        wrong(words, "o0:0-1;s0:1-0");
        wrong(words, "o0:0-1;s6:0-1");
    }

    private static void hours() {
        String words = "\"h\" and a number lets hours go by";
        fine(words, "h1", "account(0) -> 1; account(8) -> 10");
        fine(words, "h200", "account(0) -> 200; account(8) -> 2000");
        fine(words, "h200;h200;h200", "account(0) -> 600");
        wrong(words, "h0");
        wrong(words, "h000");
        wrong(words, "h201");
        wrong(words, "h999");
        wrong(words, "h200;h0");
    }

    private static void inflows() {
        String words = "\"i\" and a number sets the inflow";
        fine(words, "i0", "account(1) -> 0");
        fine(words, "i200", "account(1) -> 200");
        fine(words, "i10", "account(1) -> 10");
        wrong(words, "i201");
        wrong(words, "i999");
    }

    private static void complaints() {
        String words = "\"c\", a garden, \">\" and a garden complains";
        fine(words, "c0>11", "complaint(0, false) -> 0; complaint(0, true) -> 11");
        fine(words, "c11>0", "complaint(0, false) -> 11; complaint(0, true) -> 0");
        fine(words, "c0>1;c0>2;c0>3;c0>4;c0>5;c0>6;c0>7;c0>8", "account(5) -> 8; complaint(7, true) -> 8");
        wrong(words, "c0>12");
        wrong(words, "c12>0");
        wrong(words, "c99>99");
        wrong(words, "c0>0");
        wrong(words, "c11>11");
        wrong(words, "c1>01");
    }

    private static void repairs() {
        String words = "\"r\" and a stretch repairs it";
        fine(words, "r0", "gateOf(0, 1) -> 0; gateOf(1, 1) -> 5; account(15) -> 1; account(6) -> 2");
        wrong(words, "r6");
        wrong(words, "r9");
        Edge.test("Texts", words, "the last of six stretches", Edge.gates(6), """
                garden(5, 1, 1, 10) -> 0; append("r5") -> 2; read() -> 1; gateOf(5, 1) -> 0; gardenOf(0, 3) -> 0
                """);
    }

    private static void semicolons() {
        String words = "A text consists of orders with a semicolon between two of them";
        fine(words, "i1;i2", "account(1) -> 2");
        error(words, "", 0);
        error(words, ";", 0);
        error(words, "i1;", 3);
        error(words, ";i1", 0);
        error(words, "i1;;i2", 3);
        error(words, "i1i2", 2);
        error(words, "i1,i2", 2);
        error(words, "i1 ;i2", 2);
        error(words, "i1; i2", 3);
    }

    private static void digits() {
        String words = "Gates and stretches are one digit, gardens one or two digits";
        fine(words, "o0:000-007", "gateOf(0, 3) -> 8");
        fine(words, "o0:00-7;s0:007-07", "gateOf(0, 3) -> 7; gateOf(0, 2) -> 1; nextOpen(0) -> 0");
        fine(words, "c00>01", "complaint(0, false) -> 0; complaint(0, true) -> 1");
        fine(words, "c9>10", "complaint(0, false) -> 9; complaint(0, true) -> 10");
        fine(words, "h007;i009", "account(0) -> 7; account(1) -> 9");
        fine(words, "h07;i09", "account(0) -> 7; account(1) -> 9");
        error(words, "o00:1-2", 2);
        error(words, "s00:1-2", 2);
        error(words, "o:1-2", 1);
        error(words, "o0:0001-2", 6);
        error(words, "o0:-2", 3);
        error(words, "o0:1-0002", 8);
        error(words, "s0:1-", 5);
        error(words, "c000>1", 3);
        error(words, "c>1", 1);
        error(words, "c0>001", 5);
        error(words, "c0>", 3);
        error(words, "h0001", 4);
        error(words, "h;i1", 1);
        error(words, "i0001", 4);
        error(words, "r00", 2);
        error(words, "r", 1);
        error(words, "r-1", 1);
        error(words, "i+1", 1);
        error(words, "h/", 1);
        error(words, "h:", 1);
    }

    /** Each beginning of a text is a text as well, or ends too early. */
    private static void endsTooEarly() {
        String whole = "o0:100-101;s1:2-3;h20;i99;c11>10;r0;i1";
        for (int i = 0; i < whole.length(); i++) {
            String beginning = whole.substring(0, i);
            if (!TEXT.matcher(beginning).matches()) {
                error("or the length of the text if it ends too early", beginning, i);
                errorBehind(whole, beginning, i);
            }
        }
    }

    /** What the longer text had there is no part of the shorter one. */
    private static void errorBehind(String longer, String text, int position) {
        String appended = text.isEmpty() ? "" : "append(\"" + text + "\") -> " + text.length() + ";";
        Edge.test("Texts", "or the length of the text if it ends too early", "\"" + text + "\" behind a longer text",
                DITCH,
                "append(\"" + longer + "\") -> any; read() -> any; errorPosition() -> -1;", appended,
                "read() -> IAE; errorPosition() -> " + position + "; account(17) -> 0");
    }

    private static void wrongSigns() {
        String words = "the offset of the first character that cannot continue such a text";
        error(words, "O0:1-2", 0);
        error(words, "i1;x1", 3);
        error(words, "i1;x1;y1", 3);
        error(words, "h0;x", 3);
        error(words, "r0;r0;r0;x", 9);
        error(words, "c0>1;c0>1;", 10);
        error(words, "o0;1-2", 2);
        error(words, "o0:1:2", 4);
        error(words, "o0:1>2", 4);
        error(words, "c0-1", 2);
        error(words, "c0:1", 2);
        Edge.test("Texts", words, "the least and the greatest character, and digits that are none", """
                append(0) -> 1; read() -> IAE; errorPosition() -> 0; append("h") -> 1; append(65535) -> 2;
                append("1") -> 3; read() -> IAE; errorPosition() -> 1; append("h") -> 1; append(1633) -> 2;
                read() -> IAE; errorPosition() -> 1; append("h1") -> 2; append(47) -> 3; read() -> IAE;
                errorPosition() -> 2; append("i") -> 1; append(58) -> 2; read() -> IAE; errorPosition() -> 1;
                append("i") -> 1; append(304) -> 2; read() -> IAE; errorPosition() -> 1; append(361) -> 1;
                append("1") -> 2; read() -> IAE; errorPosition() -> 0; account(0) -> 0; account(18) -> 0
                """);
    }

    /** All texts of up to five of these signs, of which the error position is found by a regular expression. */
    private static void everyText() {
        int wrong = 0;
        char[] text = new char[MOST_SIGNS_OF_ALL];
        for (int length = 1; length <= MOST_SIGNS_OF_ALL; length++) {
            int count = (int) Math.pow(SIGNS.length, length);
            for (int number = 0; number < count; number++) {
                int rest = number;
                for (int i = 0; i < length; i++) {
                    text[i] = SIGNS[rest % SIGNS.length];
                    rest /= SIGNS.length;
                }
                wrong += isPlaceRight(new String(text, 0, length)) ? 0 : 1;
            }
        }
        Edge.check("25 errorPosition", "Returns the error position of the text of the latest call of read",
                "all texts of up to five of nine signs; wrong ones: " + wrong, wrong == 0);
    }

    private static boolean isPlaceRight(String text) {
        AcequiaGates ditch = new AcequiaGates();
        for (int i = 0; i < text.length(); i++) {
            ditch.append(text.charAt(i));
        }
        boolean isRead = true;
        try {
            ditch.read();
        } catch (IllegalArgumentException e) {
            isRead = false;
        }
        int due = errorOf(text);
        return ditch.errorPosition() == due && (due == -1 || !isRead) && ditch.account(17) == 0;
    }

    private static int errorOf(String text) {
        if (TEXT.matcher(text).matches()) {
            return -1;
        }
        int position = 0;
        while (position < text.length() && canBegin(text.substring(0, position + 1))) {
            position++;
        }
        return position;
    }

    private static boolean canBegin(String beginning) {
        Matcher matcher = TEXT.matcher(beginning);
        return matcher.matches() || matcher.hitEnd();
    }

    private static void carriedOut() {
        String words = "A text is carried out if each order can be, one after the other";
        fine(words, "i7;h1;i9;h1;i0", "account(8) -> 16; account(1) -> 0; account(0) -> 2");
        fine(words, "o0:3-9;s0:5-20;o0:6-7", "gateOf(0, 3) -> 4");
        fine(words, "h85;c0>1", "account(5) -> 1; account(13) -> 0");
        fine(words, "c0>1;h85;c0>1", "account(5) -> 1; account(13) -> 1");
        fine(words, "r0;h168;r0", "account(15) -> 2; gateOf(0, 1) -> 0; gateOf(1, 1) -> 6");
    }

    private static void notCarriedOut() {
        String words = "else nothing of it is, and the first order that cannot be decides what is thrown";
        wrong(words, "h5;i20;o0:0-9;c0>1;r0;h0");
        wrong(words, "h0;c0>1;c0>1");
        wrong(words, "i201;r0;r0");
        refused(words, "c0>1;c0>1;h0", 2, 0);
        refused(words, "c0>2;c0>1;c0>1;i201", 2, 1);
        refused(words, "r0;r0;o6:0-1", 3, 0);
        refused(words, "i1;i2;i3;i4;i5;i6;i7;i8;i9;i1;i2;i3;i4;i5;i6;i7;i8;i9;r0;r0", 3, 0);
        refused(words, "r3;r9", 4, 3);
        refused(words, "c0>1;c0>2;c0>3;c0>4;c0>5;c0>6;c0>7;c0>8;c0>9;c0>0", 1, 8);
        refused(words, "c0>1;c0>2;c0>3;c0>4;c0>5;c0>6;c0>7;c0>8;c0>5;c0>0", 2, 4);
        wrong(words, "c0>1;c0>2;c0>3;c0>4;c0>5;c0>6;c0>7;c0>8;c0>0;c0>9");
    }

    private static void refused(String words, String text, int reason, int detail) {
        Edge.test("Texts", words, "\"" + text + "\" is refused for the reason " + reason, DITCH, "append(\"" + text
                + "\") -> "
                + text.length() + "; read() -> UOE; errorPosition() -> -1; refusal(false) -> " + reason
                + "; refusal(true) -> " + detail
                + "; account(17) -> 0; account(0) -> 0; account(1) -> 10; account(5) -> 0; account(15) -> 0; "
                + "account(18) -> 8;");
    }
}
