import java.util.ArrayList;
import java.util.List;
import java.util.Random;

/** Runs of 512 calls, the same in each run of the test, compared with the model call by call. */
final class ModelTest {
    private static final int RUNS = 400;
    private static final int LONG_RUNS = 100;
    private static final int CALLS = Script.MOST_CALLS;
    private static final int[] EDGES = {-1, 0, 1, 6, 7, 12, 18, 19, 24, 99, 100, 167, 168, 200, 201, Integer.MAX_VALUE,
        Integer.MIN_VALUE};

    /** The name of a call, how often it is made, and for each number the least and the most that is usual. */
    private static final String[] CALL_KINDS = {
        "inflow 4 0 200", "fine 3 1 30", "gate 8 1 60", "garden 14 0 5 1 20 1 9 0 99", "open 14 0 5 0 167 0 167 0 1",
        "pay 5 0 11 1 99", "thief 8 0 11 0 1", "complain 14 0 11 0 11", "repair 8 0 5", "pass 12 1 40", "pass 3 1 200",
        "gateOf 12 0 5 0 6", "nextOpen 4 0 5", "gardenOf 16 0 11 0 8", "thirsty 6 0 5 0 4", "placeAgain 6 0 11",
        "complaint 4 0 8 0 1", "sign 4 0 11", "part 6 0 11 0 5", "ahead 4 0 5 1 60", "dryIn 2", "bestHour 3 0 5",
        "errorPosition 2", "refusal 6 0 1", "account 16 0 18", "isWell 2", "share 2", "meanThirst 2", "undo 5",
        "save 2", "restore 1", "TEXT 4"
    };

    /** Made in long runs besides, so that they go on for a year and more and leaks grow to the end. */
    private static final String LONG_PASS = "pass 60 100 200";

    private final Random random;
    private final AcequiaGates ditch = new AcequiaGates();
    private final Model model = new Model();
    private final List<String> log = new ArrayList<>();
    private final String[] kinds;
    private boolean isFine = true;

    private ModelTest(int seed, boolean isLong) {
        random = new Random(seed);
        List<String> weighted = new ArrayList<>();
        for (String kind : CALL_KINDS) {
            addWeighted(weighted, kind);
        }
        if (isLong) {
            addWeighted(weighted, LONG_PASS);
        }
        kinds = weighted.toArray(new String[0]);
    }

    private static void addWeighted(List<String> weighted, String kind) {
        int times = Integer.parseInt(kind.split(" ")[1]);
        for (int i = 0; i < times; i++) {
            weighted.add(kind);
        }
    }

    public static void main(String[] args) {
        for (int seed = 0; seed < RUNS + LONG_RUNS; seed++) {
            ModelTest test = new ModelTest(seed, seed >= RUNS);
            test.run();
            Script.check("run " + seed + ": " + String.join("; ", test.log), test.isFine);
        }
        Script.close("ModelTest");
    }

    private void run() {
        while (log.size() < CALLS && isFine) {
            String[] words = kinds[random.nextInt(kinds.length)].split(" ");
            if (words[0].equals("TEXT")) {
                giveText();
            } else {
                give(words[0], numbers(words));
            }
        }
    }

    private void giveText() {
        StringBuilder text = new StringBuilder(order());
        for (int i = random.nextInt(5); i > 0; i--) {
            text.append(';').append(order());
        }
        if (random.nextInt(4) == 0) {
            text.setCharAt(random.nextInt(text.length()), "oshicr:;->0123456789 x".charAt(random.nextInt(22)));
        }
        if (random.nextInt(6) == 0) {
            text.setLength(random.nextInt(text.length()));
        }
        for (int i = 0; i < text.length(); i++) {
            give("append", new int[] {text.charAt(i)});
        }
        give("read", new int[0]);
        give("errorPosition", new int[0]);
        give("account", new int[] {random.nextInt(19)});
    }

    private String order() {
        switch (random.nextInt(7)) {
            case 0:
                return "o" + random.nextInt(4) + ":" + random.nextInt(84) + "-" + (random.nextInt(85) + 84);
            case 1:
                return "s" + random.nextInt(4) + ":" + random.nextInt(90) + "-" + (random.nextInt(90) + 78);
            case 2:
                return "h" + random.nextInt(random.nextInt(8) == 0 ? 1000 : 40);
            case 3:
                return "i" + random.nextInt(random.nextInt(8) == 0 ? 1000 : 200);
            case 4:
            case 5:
                return "c" + random.nextInt(12) + ">" + (random.nextBoolean() ? "0" : "") + random.nextInt(10);
            default:
                return "r" + random.nextInt(4);
        }
    }

    private int[] numbers(String[] words) {
        int[] row = new int[words.length / 2 - 1];
        for (int i = 0; i < row.length; i++) {
            int least = Integer.parseInt(words[2 * i + 2]);
            int most = Integer.parseInt(words[2 * i + 3]);
            row[i] = least + random.nextInt(most - least + 1);
            boolean isTruth = i > 0 && isTruth(words[0], i) || words[0].equals("refusal");
            if (!isTruth && random.nextInt(30) == 0) {
                row[i] = EDGES[random.nextInt(EDGES.length)];
            }
        }
        return row;
    }

    private static boolean isTruth(String name, int place) {
        return name.equals("thief") || name.equals("complaint") || name.equals("open") && place == 3;
    }

    /** Nothing is promised about what an object answers behind its last call, so that nothing is asked then. */
    private void give(String name, int[] row) {
        if (log.size() >= CALLS || !isFine) {
            return;
        }
        StringBuilder call = new StringBuilder(name).append('(');
        for (int i = 0; i < row.length; i++) {
            boolean isTruth = i > 0 && isTruth(name, i) || name.equals("refusal");
            call.append(i > 0 ? ", " : "").append(isTruth ? String.valueOf(row[i] == 1) : String.valueOf(row[i]));
        }
        call.append(')');
        String got = Script.answer(ditch, call.toString());
        String due = model.answer(name, row);
        log.add(call + " -> " + got);
        if (!got.equals(due)) {
            log.add("due is " + due);
            isFine = false;
        }
    }
}
