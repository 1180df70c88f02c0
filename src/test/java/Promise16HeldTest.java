public final class Promise16HeldTest {
    private static final String START = """
        route(1, 2, 400) = true
        card(10000008, 1000, 0) = 1
        """;

    public static void main(String[] args) {
        Script script = new Script();
        script.run("wrong keys", """
            held(-1, 1) = BAD
            held(4, 1) = BAD
            held(0, 0) = BAD
            held(0, 10000) = BAD
            held(3, 9999) = 0
            """);
        script.run("in each state", START, """
            authorise(0, 1, 10000008, 1001, false) = SHORT
            held(0, 1) = 0
            reverse(0, 4, 100) = 0
            held(0, 4) = 0
            authorise(0, 2, 10000008, 100, false) = 100
            held(0, 2) = 100
            reverse(0, 2, 70) = 30
            held(0, 2) = 70
            present(0, 2, 60) = 3
            held(0, 2) = 0
            chargeback(0, 2) = 60
            held(0, 2) = 60
            authorise(0, 3, 10000008, 50, false) = 50
            tick(30) = 30
            held(0, 2) = 60
            tick(1) = 31
            held(0, 2) = 0
            tick(18) = 49
            held(0, 3) = 50
            tick(1) = 50
            held(0, 3) = 0
            """);
        script.run("released and represented", START, """
            authorise(0, 1, 10000008, 100, false) = 100
            reverse(0, 1, 0) = 100
            held(0, 1) = 0
            authorise(0, 2, 10000008, 100, false) = 100
            present(0, 2, 100) = 4
            chargeback(0, 2) = 100
            represent(0, 2) = 100
            held(0, 2) = 0
            """);
        script.finish();
    }
}
