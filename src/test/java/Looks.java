import java.util.LinkedHashMap;
import java.util.Map;

/** All that can be seen of a ditch, by calls that only look. */
final class Looks {
    private static final int MOST_GATES = 6;
    private static final int MOST_GARDENS = 12;
    private static final int MOST_COMPLAINTS = 8;
    private static final int ACCOUNTS = 19;

    private Looks() {
    }

    /** The answer to each call, in the order in which they are made; some 300 calls. */
    static Map<String, String> of(AcequiaGates ditch) {
        Map<String, String> looks = new LinkedHashMap<>();
        for (String call : new String[] {"errorPosition()", "refusal(false)", "refusal(true)", "isWell()", "share()",
                "meanThirst()", "dryIn()"}) {
            looks.put(call, Script.answer(ditch, call));
        }
        look(ditch, looks, "account(%d)", ACCOUNTS);
        for (int i = 0; i <= MOST_GATES; i++) {
            look(ditch, looks, "gateOf(" + i + ", %d)", i < MOST_GATES ? 7 : 1);
            look(ditch, looks, "thirsty(" + i + ", %d)", 3);
            for (String call : new String[] {"nextOpen(%d)", "bestHour(%d)", "ahead(%d, 168)"}) {
                String told = String.format(call, i);
                looks.put(told, Script.answer(ditch, told));
            }
        }
        for (int i = 0; i <= MOST_GARDENS; i++) {
            look(ditch, looks, "gardenOf(" + i + ", %d)", i < MOST_GARDENS ? 9 : 1);
            look(ditch, looks, "part(" + i + ", %d)", 2);
        }
        for (int i = 0; i <= MOST_COMPLAINTS; i++) {
            for (String call : new String[] {"complaint(" + i + ", true)", "complaint(" + i + ", false)"}) {
                looks.put(call, Script.answer(ditch, call));
            }
        }
        return looks;
    }

    private static void look(AcequiaGates ditch, Map<String, String> looks, String call, int count) {
        for (int i = 0; i < count; i++) {
            String told = String.format(call, i);
            looks.put(told, Script.answer(ditch, told));
        }
    }
}
