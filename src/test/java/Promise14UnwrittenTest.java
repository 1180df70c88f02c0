public final class Promise14UnwrittenTest {
    public static void main(String[] args) {
        Script script = new Script();
        script.run("up to sixteen, then the new one alone",
            Script.lines("reverse(0, #, 0) = 0\n unwritten() = #", 1, 16), """
            reverse(0, 17, 0) = 0
            unwritten() = 1
            reverse(0, 18, 0) = 0
            unwritten() = 2
            """);
        script.run("every change counts one", """
            route(1, 0, 100) = true
            unwritten() = 1
            route(1, 0, 100) = true
            unwritten() = 2
            card(10000008, 1000, 0) = 1
            unwritten() = 3
            authorise(0, 1, 10000008, 100, false) = 100
            unwritten() = 4
            authorise(0, 2, 20000006, 100, false) = UNKNOWN
            unwritten() = 5
            reverse(0, 3, 0) = 0
            unwritten() = 6
            reverse(0, 1, 50) = 50
            unwritten() = 7
            present(0, 1, 50) = 1
            unwritten() = 8
            chargeback(0, 1) = 50
            unwritten() = 9
            represent(0, 1) = 50
            unwritten() = 10
            cutoff() = 3
            unwritten() = 11
            """);
        script.run("all other calls count nothing", """
            route(1, 0, 100) = true
            card(10000008, 1000, 0) = 1
            authorise(0, 1, 10000008, 100, false) = 100
            unwritten() = 3
            tick(1) = 1
            reconcile(0, 0, 0) = true
            state(0, 1) = 2
            held(0, 1) = 100
            available(10000008) = 900
            position(0) = 0
            settled(0) = 0
            unwritten() = 3
            route(0, 0, 0) = false
            card(10000008, 0, 0) = DUPLICATE
            authorise(0, 1, 10000008, 100, false) = 100
            authorise(0, 1, 10000008, 101, false) = DUPLICATE
            reverse(0, 1, 100) = 0
            present(0, 1, 101) = OVER
            chargeback(0, 1) = ABSENT
            represent(0, 1) = ABSENT
            cutoff() = 0
            crash(4) = false
            unwritten() = 3
            """);
        script.run("a call that is no change writes nothing at sixteen",
            Script.lines("reverse(0, #, 0) = 0", 1, 16), """
            reverse(0, 1, 0) = 0
            cutoff() = 0
            route(0, 0, 0) = false
            unwritten() = 16
            """);
        script.finish();
    }
}
