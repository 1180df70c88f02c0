public final class Promise05ReverseTest {
    private static final String START = """
        route(1, 0, 100) = true
        card(10000008, 1000, 0) = 1
        authorise(0, 1, 10000008, 600, false) = 600
        flush() = 3
        """;

    public static void main(String[] args) {
        Script script = new Script();
        script.run("wrong arguments", START, """
            reverse(-1, 1, 0) = BAD
            reverse(4, 1, 0) = BAD
            reverse(0, 0, 0) = BAD
            reverse(0, 10000, 0) = BAD
            reverse(0, 1, -1) = BAD
            reverse(0, 1, 100001) = BAD
            reverse(0, 2, 100001) = BAD
            state(0, 2) = 0
            unwritten() = 0
            """);
        script.run("less and less of a hold", START, """
            reverse(0, 1, 100000) = 0
            reverse(0, 1, 600) = 0
            unwritten() = 0
            reverse(0, 1, 599) = 1
            held(0, 1) = 599
            available(10000008) = 401
            reverse(0, 1, 600) = 0
            reverse(0, 1, 1) = 598
            state(0, 1) = 2
            held(0, 1) = 1
            reverse(0, 1, 0) = 1
            state(0, 1) = 4
            held(0, 1) = 0
            available(10000008) = 1000
            unwritten() = 3
            reverse(0, 1, 0) = 0
            reverse(0, 1, 5) = 0
            unwritten() = 3
            """);
        script.run("the clock of the hold stays", START, """
            tick(40) = 40
            reverse(0, 1, 500) = 100
            tick(9) = 49
            state(0, 1) = 2
            tick(1) = 50
            state(0, 1) = 3
            """);
        script.run("a lapsed hold", START, """
            tick(50) = 50
            reverse(0, 1, 600) = 0
            unwritten() = 0
            reverse(0, 1, 200) = 400
            state(0, 1) = 3
            available(10000008) = 1000
            present(0, 1, 201) = OVER
            reverse(0, 1, 0) = 200
            state(0, 1) = 4
            unwritten() = 2
            present(0, 1, 1) = ABSENT
            """);
        script.run("a reversal before any request", START, """
            reverse(3, 9999, 100000) = 0
            state(3, 9999) = 5
            unwritten() = 1
            reverse(3, 9999, 0) = 0
            unwritten() = 1
            authorise(3, 9999, 10000008, 1, false) = REVERSED
            unwritten() = 1
            state(3, 9999) = 5
            """);
        script.run("a declined key", START, """
            authorise(0, 2, 10000008, 401, false) = SHORT
            unwritten() = 1
            reverse(0, 2, 0) = 0
            state(0, 2) = 1
            unwritten() = 1
            """);
        script.run("too late in states 6 to 9", START, """
            present(0, 1, 500) = 5
            reverse(0, 1, 0) = LATE
            reverse(0, 1, 100000) = LATE
            chargeback(0, 1) = 500
            reverse(0, 1, 0) = LATE
            represent(0, 1) = 500
            reverse(0, 1, 0) = LATE
            unwritten() = 3
            """);
        script.run("too late when closed", START, """
            present(0, 1, 500) = 5
            chargeback(0, 1) = 500
            tick(31) = 31
            state(0, 1) = 9
            reverse(0, 1, 0) = LATE
            """);
        script.run("no room for a further key", START, Script.lines("reverse(1, #, 0) = 0", 1, 39), """
            flush() = 7
            reverse(2, 1, 0) = FULL
            reverse(2, 1, -1) = BAD
            state(2, 1) = 0
            unwritten() = 0
            reverse(0, 1, 0) = 600
            reverse(2, 1, 0) = FULL
            """);
        script.finish();
    }
}
