public final class Promise15StateTest {
    private static final String START = """
        route(1, 2, 400) = true
        card(10000008, 1000, 0) = 1
        """;

    public static void main(String[] args) {
        Script script = new Script();
        script.run("wrong keys", """
            state(-1, 1) = BAD
            state(4, 1) = BAD
            state(0, 0) = BAD
            state(0, -1) = BAD
            state(0, 10000) = BAD
            state(2147483647, -2147483648) = BAD
            state(0, 1) = 0
            state(3, 9999) = 0
            """);
        script.run("each state", START, """
            authorise(0, 1, 10000008, 1001, false) = SHORT
            state(0, 1) = 1
            authorise(0, 2, 10000008, 100, false) = 100
            state(0, 2) = 2
            authorise(0, 3, 10000008, 100, false) = 100
            reverse(0, 3, 0) = 100
            state(0, 3) = 4
            reverse(0, 4, 0) = 0
            state(0, 4) = 5
            authorise(0, 5, 10000008, 100, false) = 100
            present(0, 5, 100) = 4
            state(0, 5) = 6
            chargeback(0, 5) = 100
            state(0, 5) = 7
            authorise(0, 6, 10000008, 100, false) = 100
            present(0, 6, 100) = 4
            chargeback(0, 6) = 100
            represent(0, 6) = 100
            state(0, 6) = 8
            tick(30) = 30
            state(0, 5) = 7
            tick(1) = 31
            state(0, 5) = 9
            tick(18) = 49
            state(0, 2) = 2
            tick(1) = 50
            state(0, 2) = 3
            tick(100) = 150
            state(0, 1) = 1
            state(0, 2) = 3
            state(0, 3) = 4
            state(0, 4) = 5
            state(0, 5) = 9
            state(0, 6) = 8
            """);
        script.finish();
    }
}
