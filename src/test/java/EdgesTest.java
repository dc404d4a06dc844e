import java.util.List;

/**
 * The edges that the sentences of the document name. Each title tells the place of the sentence ("5 garden" for the
 * promise 5, "Gates" for a paragraph of the terms), words of it, and the edge; and each sentence has a test.
 */
final class EdgesTest {
    /** Places that tell what the program is, or what is not promised, and so name nothing that a call could answer. */
    private static final List<String> WITHOUT_EDGES = List.of("What it is: A ditch of a town",
            "What it is: what later calls answer is free", "Not promised: ");

    private EdgesTest() {
    }

    public static void main(String[] args) {
        examples();
        TermsEdges.run();
        HourEdges.run();
        RepairEdges.run();
        TextEdges.run();
        ChangeEdges.run();
        LookEdges.run();
        InputEdges.run();
        StateEdges.run();
        ThrowEdges.run();
        eachSentence();
        Script.close("EdgesTest");
    }

    private static void examples() {
        Edge.test("Examples", "Each one begins with a new object", "what the last one did is not there",
                "account(0) -> 0; account(3) -> 0; undo() -> ISE");
        Edge.test("Examples", "A method name with a text in quotation marks stands for the calls that append this text",
                "one character, and three of them", "append(\"h\") -> 1; append(\"100\") -> 4; read() -> 1; "
                + "account(0) -> 100");
        for (String example : Doc.examples()) {
            Edge.test("Examples", "the result of a call follows its arrow", example.substring(0, example.indexOf(';')),
                    example);
        }
        Script.check("the document has three examples", !Doc.isHere() || Doc.examples().size() == 3);
    }

    private static void eachSentence() {
        for (String sentence : Doc.unnamed()) {
            if (WITHOUT_EDGES.stream().noneMatch(sentence::startsWith)) {
                Script.check("a test names the sentence \"" + sentence + "\"", false);
            }
        }
        Script.check("the document was read: " + Doc.count() + " sentences", !Doc.isHere() || Doc.count() > 200);
        if (!Doc.isHere()) {
            System.out.println("EdgesTest: ../shared/DOC.md is not here, so that no sentence could be looked up");
        }
    }
}
