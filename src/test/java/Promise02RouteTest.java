public final class Promise02RouteTest {
    public static void main(String[] args) {
        Script script = new Script();
        script.run("the ranges", """
            route(0, 0, 0) = false
            route(-1, 0, 0) = false
            route(10000, 0, 0) = false
            route(2147483647, 0, 0) = false
            route(-2147483648, 0, 0) = false
            route(1, -1, 0) = false
            route(1, 4, 0) = false
            route(1, 0, -1) = false
            route(1, 0, 2001) = false
            unwritten() = 0
            route(1, 0, 0) = true
            route(9999, 3, 2000) = true
            unwritten() = 2
            """);
        script.run("the same route again is a change", """
            route(12, 1, 100) = true
            route(12, 1, 100) = true
            unwritten() = 2
            """);
        script.run("a wrong issuer or rate for a prefix that is there alters nothing", """
            route(1, 2, 1000) = true
            route(1, 4, 500) = false
            route(1, 3, 2001) = false
            card(10000008, 100, 0) = 1
            authorise(0, 1, 10000008, 100, false) = 100
            present(0, 1, 100) = 10
            position(6) = -93
            """);
        script.run("six routes, which may still be given another issuer and rate",
            Script.lines("route(#, 0, 0) = true", 1, 6), """
            route(7, 0, 0) = false
            unwritten() = 6
            route(6, 3, 1000) = true
            unwritten() = 7
            card(60000007, 100, 0) = 1
            authorise(0, 1, 60000007, 100, false) = 100
            present(0, 1, 100) = 10
            position(7) = -93
            """);
        script.run("keys in use keep their issuer and rate", """
            route(1, 0, 1000) = true
            card(10000008, 1000, 0) = 1
            authorise(0, 1, 10000008, 100, false) = 100
            authorise(0, 2, 10000008, 100, false) = 100
            present(0, 2, 100) = 10
            route(1, 1, 2000) = true
            route(10, 2, 500) = true
            present(0, 1, 100) = 10
            present(0, 2, 100) = 10
            chargeback(0, 1) = 100
            position(4) = -86
            position(5) = 0
            position(6) = 0
            authorise(0, 3, 10000008, 100, false) = 100
            present(0, 3, 100) = 5
            position(6) = -97
            """);
        theLongestFittingPrefix(script);
        script.finish();
    }

    /** Rates tell the routes apart by the fee of 10000, one for each digit; they are entered in two orders. */
    private static void theLongestFittingPrefix(Script script) {
        String use = """
            card(12034567, 100000, 0) = 1
            authorise(0, 1, 12034567, 10000, false) = 10000
            present(0, 1, 10000) = 4
            card(12040002, 100000, 0) = 2
            authorise(0, 2, 12040002, 10000, false) = 10000
            present(0, 2, 10000) = 3
            card(12100004, 100000, 0) = 3
            authorise(0, 3, 12100004, 10000, false) = 10000
            present(0, 3, 10000) = 2
            card(11200003, 100000, 0) = 4
            authorise(0, 4, 11200003, 10000, false) = 10000
            present(0, 4, 10000) = 1
            card(20000006, 100000, 0) = 5
            authorise(0, 5, 20000006, 10000, false) = UNROUTED
            """;
        script.run("prefixes from short to long", """
            route(1, 0, 1) = true
            route(12, 0, 2) = true
            route(120, 0, 3) = true
            route(1203, 0, 4) = true
            route(2034, 0, 9) = true
            """, use);
        script.run("prefixes from long to short", """
            route(2034, 0, 9) = true
            route(1203, 0, 4) = true
            route(120, 0, 3) = true
            route(12, 0, 2) = true
            route(1, 0, 1) = true
            """, use);
    }
}
