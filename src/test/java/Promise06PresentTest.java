public final class Promise06PresentTest {
    private static final String START = """
        route(1, 2, 400) = true
        card(10000008, 1000, 0) = 1
        authorise(1, 7, 10000008, 600, false) = 600
        flush() = 3
        """;

    public static void main(String[] args) {
        Script script = new Script();
        refusals(script);
        script.run("all that is held", START, """
            present(1, 7, 600) = 24
            state(1, 7) = 6
            held(1, 7) = 0
            available(10000008) = 400
            position(1) = 576
            position(6) = -582
            position(8) = 6
            position(2) = 0
            position(5) = 0
            unwritten() = 1
            reconcile(1, 1, 600) = true
            cutoff() = 1
            """);
        script.run("a part: the rest is held no more", START, """
            present(1, 7, 1) = 1
            available(10000008) = 999
            held(1, 7) = 0
            position(1) = 0
            position(6) = -1
            position(8) = 1
            """);
        script.run("a repeat in each of the states 6 to 9", START, """
            present(1, 7, 500) = 20
            present(1, 7, 500) = 20
            present(1, 7, 499) = DUPLICATE
            present(1, 7, 600) = DUPLICATE
            present(1, 7, 601) = DUPLICATE
            chargeback(1, 7) = 500
            present(1, 7, 500) = 20
            present(1, 7, 501) = DUPLICATE
            represent(1, 7) = 500
            present(1, 7, 500) = 20
            present(1, 7, 501) = DUPLICATE
            unwritten() = 3
            cutoff() = 3
            reconcile(1, 0, 0) = true
            present(1, 7, 500) = 20
            unwritten() = 4
            """);
        script.run("a repeat when closed", START, """
            present(1, 7, 500) = 20
            chargeback(1, 7) = 500
            tick(31) = 31
            present(1, 7, 500) = 20
            present(1, 7, 1) = DUPLICATE
            available(10000008) = 1000
            """);
        lapsed(script);
        fees(script);
        script.run("cleared at this clock", START, """
            tick(20) = 20
            present(1, 7, 600) = 24
            tick(30) = 50
            state(1, 7) = 6
            chargeback(1, 7) = 600
            """);
        script.finish();
    }

    private static void refusals(Script script) {
        script.run("wrong arguments", START, """
            present(-1, 7, 1) = BAD
            present(4, 7, 1) = BAD
            present(1, 0, 1) = BAD
            present(1, 10000, 1) = BAD
            present(1, 7, 0) = BAD
            present(1, 7, -1) = BAD
            present(1, 7, 100001) = BAD
            unwritten() = 0
            state(1, 7) = 2
            """);
        script.run("states in which nothing can be presented", START, """
            present(1, 8, 1) = ABSENT
            state(1, 8) = 0
            authorise(1, 8, 10000008, 401, false) = SHORT
            present(1, 8, 1) = ABSENT
            reverse(1, 9, 0) = 0
            present(1, 9, 1) = ABSENT
            reverse(1, 7, 0) = 600
            present(1, 7, 1) = ABSENT
            unwritten() = 3
            """);
        script.run("more than the key's amount", START, """
            present(1, 7, 601) = OVER
            reverse(1, 7, 100) = 500
            present(1, 7, 101) = OVER
            unwritten() = 1
            present(1, 7, 100) = 4
            """);
    }

    private static void lapsed(Script script) {
        script.run("a lapsed hold needs what is available now", START, """
            tick(50) = 50
            authorise(1, 8, 10000008, 700, false) = 700
            present(1, 7, 601) = OVER
            present(1, 7, 600) = SHORT
            present(1, 7, 301) = SHORT
            state(1, 7) = 3
            unwritten() = 1
            present(1, 7, 300) = 12
            state(1, 7) = 6
            available(10000008) = 0
            unwritten() = 2
            """);
        script.run("a hold that has not lapsed needs nothing more", START, """
            authorise(1, 8, 10000008, 400, false) = 400
            available(10000008) = 0
            tick(49) = 49
            present(1, 7, 600) = 24
            available(10000008) = 0
            """);
    }

    private static void fees(Script script) {
        script.run("the fee is rounded up, the share down", """
            route(1, 0, 1) = true
            card(10000008, 1000000, -1000000) = 1
            authorise(0, 1, 10000008, 1, false) = 1
            present(0, 1, 1) = 1
            position(8) = 1
            position(4) = -1
            position(0) = 0
            authorise(0, 2, 10000008, 10000, false) = 10000
            present(0, 2, 10000) = 1
            position(8) = 2
            position(4) = -10001
            authorise(0, 3, 10000008, 10001, false) = 10001
            present(0, 3, 10001) = 2
            position(8) = 4
            authorise(0, 4, 10000008, 13334, false) = 13334
            present(0, 4, 13334) = 2
            position(8) = 5
            position(4) = -33335
            position(0) = 33330
            """);
        script.run("the share just below a whole number", """
            route(1, 0, 1) = true
            card(10000008, 1000000, -1000000) = 1
            authorise(0, 1, 10000008, 13333, false) = 13333
            present(0, 1, 13333) = 2
            position(8) = 2
            position(4) = -13333
            """);
        script.run("the highest rate and amount, and the rate 0", """
            route(1, 3, 2000) = true
            route(2, 3, 0) = true
            card(10000008, 1000000, -1000000) = 1
            card(20000006, 1000000, -1000000) = 2
            authorise(3, 1, 10000008, 100000, false) = 100000
            present(3, 1, 100000) = 20000
            position(3) = 80000
            position(7) = -85000
            position(8) = 5000
            authorise(0, 1, 20000006, 100000, false) = 100000
            present(0, 1, 100000) = 0
            position(0) = 100000
            position(7) = -185000
            position(8) = 5000
            """);
    }
}
