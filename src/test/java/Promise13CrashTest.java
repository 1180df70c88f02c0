public final class Promise13CrashTest {
    private static final String START = """
        route(1, 2, 400) = true
        card(10000008, 1000, 0) = 1
        authorise(1, 7, 10000008, 600, false) = 600
        flush() = 3
        """;

    public static void main(String[] args) {
        Script script = new Script();
        theRange(script);
        eachChangeLost(script);
        severalChangesLost(script);
        theClockStays(script);
        rowsUsedAgain(script);
        script.finish();
    }

    private static void theRange(Script script) {
        script.run("n out of range alters nothing", START, """
            reverse(0, 1, 0) = 0
            reverse(0, 2, 0) = 0
            crash(-1) = false
            crash(3) = false
            crash(2147483647) = false
            crash(-2147483648) = false
            unwritten() = 2
            state(0, 2) = 5
            crash(2) = true
            state(0, 1) = 0
            state(0, 2) = 0
            unwritten() = 0
            """);
        script.run("n = 0 writes", """
            reverse(0, 1, 0) = 0
            crash(0) = true
            unwritten() = 0
            state(0, 1) = 5
            crash(1) = false
            """);
        script.run("the others are written", Script.lines("reverse(0, #, 0) = 0", 1, 5), """
            crash(2) = true
            unwritten() = 0
            crash(1) = false
            state(0, 3) = 5
            state(0, 4) = 0
            """);
        script.run("all sixteen", Script.lines("reverse(0, #, 0) = 0", 1, 16), "crash(17) = false", "crash(16) = true",
            Script.lines("state(0, #) = 0", 1, 16), "unwritten() = 0");
        script.run("the seventeenth", Script.lines("reverse(0, #, 0) = 0", 1, 17), "crash(2) = false", "crash(1) = true",
            Script.lines("state(0, #) = 5", 1, 16), "state(0, 17) = 0");
        script.run("all forty keys can come again", Script.lines("reverse(0, #, 0) = 0", 1, 40), """
            reverse(1, 1, 0) = FULL
            crash(8) = true
            """, Script.lines("reverse(1, #, 0) = 0", 1, 8), "reverse(1, 9, 0) = FULL", "state(0, 32) = 5", "state(0, 33) = 0");
    }

    private static void eachChangeLost(Script script) {
        script.run("a new route and a new card", """
            route(1, 2, 400) = true
            crash(1) = true
            card(10000008, 100, 0) = 1
            authorise(0, 1, 10000008, 1, false) = UNROUTED
            crash(2) = true
            available(10000008) = UNKNOWN
            card(10000008, 50, 0) = 1
            available(10000008) = 50
            """);
        script.run("an altered route", START, """
            route(1, 3, 2000) = true
            route(1, 0, 0) = true
            crash(2) = true
            authorise(1, 8, 10000008, 100, false) = 100
            present(1, 8, 100) = 4
            position(6) = -97
            """);
        script.run("a sixth route", Script.lines("route(#, 0, 0) = true", 1, 6), """
            crash(1) = true
            route(7, 0, 0) = true
            route(6, 0, 0) = false
            """);
        script.run("an approval and a refusal", START, """
            authorise(1, 8, 10000008, 400, false) = 400
            crash(1) = true
            state(1, 8) = 0
            available(10000008) = 400
            authorise(1, 8, 10000008, 500, false) = SHORT
            crash(1) = true
            state(1, 8) = 0
            authorise(1, 8, 10000008, 300, false) = 300
            """);
        script.run("a reversal", START, """
            reverse(1, 7, 100) = 500
            crash(1) = true
            held(1, 7) = 600
            reverse(1, 7, 0) = 600
            crash(1) = true
            state(1, 7) = 2
            held(1, 7) = 600
            available(10000008) = 400
            """);
        script.run("a presentment, a chargeback, a representment, a cut-off", START, """
            tick(3) = 3
            present(1, 7, 500) = 20
            crash(1) = true
            state(1, 7) = 2
            held(1, 7) = 600
            position(1) = 0
            position(6) = 0
            position(8) = 0
            reconcile(1, 0, 0) = true
            cutoff() = 0
            present(1, 7, 500) = 20
            chargeback(1, 7) = 500
            crash(1) = true
            state(1, 7) = 6
            position(1) = 480
            available(10000008) = 500
            chargeback(1, 7) = 500
            represent(1, 7) = 500
            crash(1) = true
            state(1, 7) = 7
            held(1, 7) = 500
            position(6) = 15
            cutoff() = 2
            crash(1) = true
            settled(6) = 0
            position(6) = 15
            cutoff() = 2
            settled(6) = 15
            """);
    }

    private static void severalChangesLost(Script script) {
        script.run("all that came to one key", START, """
            reverse(1, 7, 550) = 50
            present(1, 7, 500) = 20
            chargeback(1, 7) = 500
            represent(1, 7) = 500
            cutoff() = 3
            crash(5) = true
            state(1, 7) = 2
            held(1, 7) = 600
            available(10000008) = 400
            position(1) = 0
            settled(1) = 0
            cutoff() = 0
            """);
        script.run("back to the middle", START, """
            present(1, 7, 500) = 20
            cutoff() = 1
            chargeback(1, 7) = 500
            cutoff() = 1
            represent(1, 7) = 500
            crash(3) = true
            state(1, 7) = 6
            settled(1) = 480
            position(1) = 0
            available(10000008) = 500
            cutoff() = 0
            """);
    }

    private static void theClockStays(Script script) {
        script.run("a hold that comes back has its own clock", START, """
            tick(5) = 5
            authorise(1, 8, 10000008, 100, false) = 100
            flush() = 1
            tick(20) = 25
            present(1, 8, 100) = 4
            crash(1) = true
            tick(29) = 54
            state(1, 8) = 2
            tick(1) = 55
            state(1, 8) = 3
            """);
        script.run("so has a clearing", START, """
            tick(5) = 5
            present(1, 7, 500) = 20
            flush() = 1
            tick(20) = 25
            chargeback(1, 7) = 500
            crash(1) = true
            tick(10) = 35
            chargeback(1, 7) = 500
            crash(1) = true
            tick(1) = 36
            chargeback(1, 7) = LATE
            """);
        script.run("a hold that comes back has lapsed", START, """
            tick(49) = 49
            present(1, 7, 500) = 20
            tick(1) = 50
            crash(1) = true
            state(1, 7) = 3
            available(10000008) = 1000
            tick(0) = 50
            """);
        script.run("a clearing that comes back is too old", START, """
            present(1, 7, 500) = 20
            tick(30) = 30
            chargeback(1, 7) = 500
            tick(1) = 31
            crash(1) = true
            state(1, 7) = 6
            chargeback(1, 7) = LATE
            """);
        script.run("a chargeback that comes back is closed", START, """
            present(1, 7, 500) = 20
            chargeback(1, 7) = 500
            tick(30) = 30
            represent(1, 7) = 500
            tick(1) = 31
            crash(1) = true
            state(1, 7) = 9
            represent(1, 7) = LATE
            available(10000008) = 1000
            """);
    }

    private static void rowsUsedAgain(Script script) {
        script.run("nothing of a lost key is left in the next one", START, """
            authorise(0, 1, 10000008, 100, true) = 100
            authorise(0, 2, 10000008, 100, true) = 100
            authorise(0, 3, 10000008, 100, true) = 100
            crash(3) = true
            reverse(0, 4, 0) = 0
            reverse(0, 5, 0) = 0
            reverse(0, 6, 0) = 0
            held(0, 4) = 0
            state(0, 4) = 5
            available(10000008) = 400
            authorise(0, 1, 10000008, 50, false) = 50
            authorise(0, 2, 10000008, 50, false) = 50
            authorise(0, 3, 10000008, 50, false) = 50
            authorise(0, 7, 10000008, 50, false) = BUSY
            """);
        script.run("a lost route's row", """
            card(10000008, 100, 0) = 1
            route(1, 0, 100) = true
            route(10, 0, 100) = true
            crash(1) = true
            route(2, 0, 100) = true
            route(1, 1, 1000) = true
            crash(1) = true
            authorise(0, 1, 10000008, 100, false) = 100
            present(0, 1, 100) = 1
            position(4) = -100
            """);
    }
}
