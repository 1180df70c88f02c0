public final class Promise07ChargebackTest {
    private static final String START = """
        route(1, 2, 400) = true
        card(10000008, 1000, 0) = 1
        authorise(1, 7, 10000008, 600, false) = 600
        flush() = 3
        """;

    public static void main(String[] args) {
        Script script = new Script();
        script.run("wrong keys", """
            chargeback(-1, 7) = BAD
            chargeback(4, 7) = BAD
            chargeback(1, 0) = BAD
            chargeback(1, 10000) = BAD
            """);
        script.run("states 0 to 5", START, """
            chargeback(1, 8) = ABSENT
            authorise(1, 8, 10000008, 401, false) = SHORT
            chargeback(1, 8) = ABSENT
            chargeback(1, 7) = ABSENT
            tick(50) = 50
            chargeback(1, 7) = ABSENT
            reverse(1, 7, 0) = 600
            chargeback(1, 7) = ABSENT
            reverse(1, 9, 0) = 0
            chargeback(1, 9) = ABSENT
            unwritten() = 3
            state(1, 8) = 1
            """);
        script.run("the amount is given back, but blocked; the fees stay", START, """
            present(1, 7, 500) = 20
            cutoff() = 1
            chargeback(1, 7) = 500
            state(1, 7) = 7
            held(1, 7) = 500
            available(10000008) = 500
            position(1) = -500
            position(6) = 500
            position(8) = 0
            unwritten() = 3
            reconcile(1, 0, 0) = true
            chargeback(1, 7) = 0
            unwritten() = 3
            represent(1, 7) = 500
            chargeback(1, 7) = 0
            unwritten() = 4
            position(1) = 0
            cutoff() = 2
            """);
        script.run("at c + 30 it is in time", START, """
            tick(5) = 5
            present(1, 7, 500) = 20
            tick(30) = 35
            chargeback(1, 7) = 500
            tick(30) = 65
            state(1, 7) = 7
            held(1, 7) = 500
            available(10000008) = 500
            tick(1) = 66
            state(1, 7) = 9
            held(1, 7) = 0
            available(10000008) = 1000
            chargeback(1, 7) = 0
            """);
        script.run("beyond c + 30 it is late", START, """
            tick(5) = 5
            present(1, 7, 500) = 20
            tick(31) = 36
            chargeback(1, 7) = LATE
            state(1, 7) = 6
            unwritten() = 1
            position(1) = 480
            """);
        script.run("what is blocked can't be spent, what is blocked no more can", START, """
            present(1, 7, 600) = 24
            chargeback(1, 7) = 600
            authorise(1, 8, 10000008, 401, false) = SHORT
            tick(31) = 31
            authorise(1, 9, 10000008, 1000, false) = 1000
            """);
        script.finish();
    }
}
