public final class Promise08RepresentTest {
    private static final String START = """
        route(1, 2, 400) = true
        card(10000008, 1000, 0) = 1
        authorise(1, 7, 10000008, 600, false) = 600
        flush() = 3
        """;

    public static void main(String[] args) {
        Script script = new Script();
        script.run("wrong keys", """
            represent(-1, 7) = BAD
            represent(4, 7) = BAD
            represent(1, 0) = BAD
            represent(1, 10000) = BAD
            """);
        script.run("states 0 to 6", START, """
            represent(1, 8) = ABSENT
            authorise(1, 8, 10000008, 401, false) = SHORT
            represent(1, 8) = ABSENT
            represent(1, 7) = ABSENT
            reverse(1, 9, 0) = 0
            represent(1, 9) = ABSENT
            authorise(1, 10, 10000008, 10, false) = 10
            reverse(1, 10, 0) = 10
            represent(1, 10) = ABSENT
            present(1, 7, 500) = 20
            represent(1, 7) = ABSENT
            tick(100) = 100
            represent(1, 7) = ABSENT
            unwritten() = 5
            """);
        script.run("a lapsed hold", START, """
            tick(50) = 50
            represent(1, 7) = ABSENT
            """);
        script.run("the amount is taken again", START, """
            present(1, 7, 500) = 20
            chargeback(1, 7) = 500
            cutoff() = 2
            represent(1, 7) = 500
            state(1, 7) = 8
            held(1, 7) = 0
            available(10000008) = 500
            position(1) = 500
            position(6) = -500
            position(8) = 0
            unwritten() = 4
            reconcile(1, 0, 0) = true
            represent(1, 7) = 0
            unwritten() = 4
            cutoff() = 1
            tick(100) = 100
            represent(1, 7) = 0
            state(1, 7) = 8
            available(10000008) = 500
            """);
        script.run("in time at c + 30", START, """
            present(1, 7, 500) = 20
            tick(10) = 10
            chargeback(1, 7) = 500
            tick(30) = 40
            represent(1, 7) = 500
            state(1, 7) = 8
            """);
        script.run("late beyond c + 30", START, """
            present(1, 7, 500) = 20
            tick(10) = 10
            chargeback(1, 7) = 500
            tick(31) = 41
            represent(1, 7) = LATE
            state(1, 7) = 9
            unwritten() = 2
            available(10000008) = 1000
            """);
        script.finish();
    }
}
