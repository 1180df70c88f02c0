public final class Promise19SettledTest {
    public static void main(String[] args) {
        Script script = new Script();
        script.run("parties that are none", """
            settled(-1) = 0
            settled(9) = 0
            settled(2147483647) = 0
            settled(-2147483648) = 0
            """);
        script.run("every acquirer and every issuer, over two cut-offs", """
            route(1, 0, 1000) = true
            route(2, 1, 1000) = true
            route(3, 2, 1000) = true
            route(4, 3, 1000) = true
            card(10000008, 1000, 0) = 1
            card(20000006, 1000, 0) = 2
            card(30000004, 1000, 0) = 3
            card(40000002, 1000, 0) = 4
            authorise(0, 1, 40000002, 100, false) = 100
            authorise(1, 1, 30000004, 200, false) = 200
            authorise(2, 1, 20000006, 300, false) = 300
            authorise(3, 1, 10000008, 400, false) = 400
            present(0, 1, 100) = 10
            present(1, 1, 200) = 20
            cutoff() = 2
            present(2, 1, 300) = 30
            present(3, 1, 400) = 40
            settled(2) = 0
            settled(0) = 90
            cutoff() = 2
            settled(0) = 90
            settled(1) = 180
            settled(2) = 270
            settled(3) = 360
            settled(4) = -370
            settled(5) = -278
            settled(6) = -185
            settled(7) = -93
            settled(8) = 26
            settled(9) = 0
            settled(-1) = 0
            """);
        script.finish();
    }
}
