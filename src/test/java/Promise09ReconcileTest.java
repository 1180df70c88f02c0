public final class Promise09ReconcileTest {
    private static final String START = """
        route(1, 2, 400) = true
        card(10000008, 1000, 0) = 1
        authorise(1, 1, 10000008, 100, false) = 100
        authorise(1, 2, 10000008, 200, false) = 200
        authorise(2, 1, 10000008, 300, false) = 300
        present(1, 1, 90) = 4
        present(1, 2, 200) = 8
        present(2, 1, 300) = 12
        """;

    public static void main(String[] args) {
        Script script = new Script();
        script.run("count and total of the acquirer", START, """
            flush() = 8
            reconcile(1, 2, 290) = true
            reconcile(1, 1, 290) = false
            reconcile(1, 3, 290) = false
            reconcile(1, 2, 289) = false
            reconcile(1, 2, 300) = false
            reconcile(1, 2, 4294967586) = false
            reconcile(1, -2, 290) = false
            reconcile(2, 1, 300) = true
            reconcile(0, 0, 0) = true
            reconcile(3, 0, 0) = true
            reconcile(3, 0, -1) = false
            unwritten() = 0
            """);
        script.run("other acquirers", START, """
            reconcile(-1, 0, 0) = false
            reconcile(4, 0, 0) = false
            reconcile(6, 0, 0) = false
            reconcile(2147483647, 0, 0) = false
            reconcile(-2147483648, 0, 0) = false
            """);
        script.run("chargebacks and representments don't count", START, """
            chargeback(1, 1) = 90
            reconcile(1, 2, 290) = true
            represent(1, 1) = 90
            reconcile(1, 2, 290) = true
            present(1, 1, 90) = 4
            reconcile(1, 2, 290) = true
            """);
        script.run("since the latest cut-off", START, """
            cutoff() = 3
            reconcile(1, 0, 0) = true
            reconcile(1, 2, 290) = false
            reconcile(2, 0, 0) = true
            authorise(1, 3, 10000008, 50, false) = 50
            present(1, 3, 50) = 2
            reconcile(1, 1, 50) = true
            crash(1) = true
            reconcile(1, 0, 0) = true
            """);
        script.run("a lost cut-off", START, """
            cutoff() = 3
            crash(1) = true
            reconcile(1, 2, 290) = true
            """);
        script.finish();
    }
}
