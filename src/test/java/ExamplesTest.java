/** The examples of the document, call by call. */
final class ExamplesTest {
    private ExamplesTest() {
    }

    public static void main(String[] args) {
        Script.run("A gate that is open by day",
                "inflow(50) -> 10; gate(20) -> 0; garden(0, 4, 2, 30) -> 0; garden(0, 2, 1, 5) -> 1;",
                "open(0, 8, 20, true) -> 13; pass(8) -> 0; thirsty(0, 0) -> 0; gardenOf(0, 4) -> 8;",
                "ahead(0, 3) -> 60; pass(3) -> 30; gardenOf(0, 4) -> 0; gateOf(0, 5) -> 60;",
                "account(9) -> 33; part(0, 0) -> 7; repair(0) -> 1; isWell() -> true");
        Script.run("A leak, a complaint and a repair",
                "gate(5) -> 0; repair(0) -> throws UnsupportedOperationException; refusal(false) -> 4;",
                "garden(0, 1, 1, 9) -> 0; garden(0, 1, 1, 9) -> 1; complain(0, 1) -> 1;",
                "complain(0, 1) -> throws UnsupportedOperationException; refusal(true) -> 0;",
                "repair(0) -> 0; gateOf(0, 1) -> 0; repair(0) -> throws UnsupportedOperationException;",
                "refusal(false) -> 3; sign(0) -> w");
        Script.run("Exceptions without gates",
                "garden(0, 1, 1, 1) -> throws IndexOutOfBoundsException; fine(0) -> throws IllegalArgumentException;",
                "refusal(false) -> throws NoSuchElementException; nextOpen(0) -> throws IndexOutOfBoundsException;",
                "dryIn() -> throws NoSuchElementException; read() -> throws IllegalArgumentException;",
                "errorPosition() -> 0; share() -> throws ArithmeticException;",
                "undo() -> throws IllegalStateException; restore() -> throws IllegalStateException");
        Script.close("ExamplesTest");
    }
}
