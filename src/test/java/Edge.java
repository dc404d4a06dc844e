/** A test of one edge that a sentence of the document names; its title tells the place, the sentence and the edge. */
final class Edge {
    private Edge() {
    }

    /** The words are those of one sentence at that place of ../shared/DOC.md. */
    static void test(String place, String words, String what, String... rows) {
        Script.run(title(place, words, what), rows);
    }

    static void check(String place, String words, String what, boolean isFine) {
        Script.check(title(place, words, what), isFine);
    }

    static String title(String place, String words, String what) {
        if (!Doc.name(place, words)) {
            Script.check("the document has not exactly one sentence \"" + words + "\" under \"" + place + "\"", false);
        }
        return place + ", \"" + words + "\": " + what;
    }

    /** So many gates of the width 5. */
    static String gates(int count) {
        StringBuilder rows = new StringBuilder();
        for (int i = 0; i < count; i++) {
            rows.append("gate(5) -> ").append(i).append("; ");
        }
        return rows.toString();
    }

    /** So many gardens at the gate 0, each with 1 bed, 1 share and 9 coins. */
    static String gardens(int count) {
        StringBuilder rows = new StringBuilder();
        for (int i = 0; i < count; i++) {
            rows.append("garden(0, 1, 1, 9) -> ").append(i).append("; ");
        }
        return rows.toString();
    }
}
