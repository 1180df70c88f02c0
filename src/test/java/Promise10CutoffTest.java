public final class Promise10CutoffTest {
    private static final String START = """
        route(1, 2, 400) = true
        card(10000008, 1000, 0) = 1
        authorise(1, 1, 10000008, 500, false) = 500
        authorise(3, 1, 10000008, 500, false) = 500
        flush() = 4
        """;

    public static void main(String[] args) {
        Script script = new Script();
        script.run("without items nothing happens", START, """
            cutoff() = 0
            unwritten() = 0
            """);
        script.run("each kind of item counts, repeats and refusals don't", START, """
            present(1, 1, 500) = 20
            present(1, 1, 500) = 20
            present(3, 1, 501) = OVER
            chargeback(1, 1) = 500
            chargeback(1, 1) = 0
            represent(1, 1) = 500
            represent(1, 1) = 0
            present(3, 1, 100) = 4
            unwritten() = 4
            cutoff() = 4
            unwritten() = 5
            cutoff() = 0
            unwritten() = 5
            """);
        script.run("positions go to the settled sums, which grow on", START, """
            present(1, 1, 500) = 20
            settled(1) = 0
            cutoff() = 1
            settled(1) = 480
            settled(6) = -485
            settled(8) = 5
            settled(3) = 0
            position(1) = 0
            position(6) = 0
            position(8) = 0
            present(3, 1, 100) = 4
            chargeback(1, 1) = 500
            settled(1) = 480
            position(3) = 96
            position(1) = -500
            cutoff() = 2
            settled(1) = -20
            settled(3) = 96
            settled(6) = -82
            settled(8) = 6
            position(1) = 0
            position(3) = 0
            """);
        script.run("items whose positions come to 0 are items", """
            route(1, 0, 0) = true
            card(10000008, 100, 0) = 1
            authorise(0, 1, 10000008, 100, false) = 100
            present(0, 1, 100) = 0
            chargeback(0, 1) = 100
            position(0) = 0
            position(4) = 0
            cutoff() = 2
            unwritten() = 6
            settled(0) = 0
            """);
        script.run("lost", START, """
            present(1, 1, 500) = 20
            cutoff() = 1
            crash(1) = true
            settled(1) = 0
            position(1) = 480
            cutoff() = 1
            settled(1) = 480
            """);
        script.finish();
    }
}
