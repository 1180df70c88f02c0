public final class Promise17AvailableTest {
    public static void main(String[] args) {
        Script script = new Script();
        script.run("any int may be asked", """
            available(0) = UNKNOWN
            available(-1) = UNKNOWN
            available(10000007) = UNKNOWN
            available(2147483647) = UNKNOWN
            available(-2147483648) = UNKNOWN
            available(10000008) = UNKNOWN
            card(10000008, 0, 0) = 1
            available(10000008) = 0
            available(20000006) = UNKNOWN
            """);
        script.run("the keys of the card's own account, from state to state", """
            route(1, 2, 400) = true
            route(2, 2, 400) = true
            card(10000008, 1000, -500) = 1
            card(20000006, 30, 10) = 2
            available(10000008) = 1500
            available(20000006) = 20
            authorise(0, 1, 10000008, 100, false) = 100
            authorise(0, 2, 10000008, 200, false) = 200
            authorise(0, 3, 20000006, 5, false) = 5
            available(10000008) = 1200
            available(20000006) = 15
            reverse(0, 1, 40) = 60
            available(10000008) = 1260
            present(0, 2, 150) = 6
            available(10000008) = 1310
            chargeback(0, 2) = 150
            available(10000008) = 1310
            tick(31) = 31
            available(10000008) = 1460
            tick(19) = 50
            available(10000008) = 1500
            available(20000006) = 20
            authorise(0, 4, 10000008, 1500, false) = 1500
            available(10000008) = 0
            present(0, 1, 1) = SHORT
            """);
        script.run("represented and lapsed ones", """
            route(1, 2, 400) = true
            card(10000008, 1000, 0) = 1
            authorise(0, 1, 10000008, 100, false) = 100
            present(0, 1, 100) = 4
            chargeback(0, 1) = 100
            represent(0, 1) = 100
            available(10000008) = 900
            authorise(0, 2, 10000008, 100, false) = 100
            tick(49) = 49
            available(10000008) = 800
            tick(1) = 50
            available(10000008) = 900
            present(0, 2, 100) = 4
            available(10000008) = 800
            """);
        script.run("a card that was asked for before it was entered", """
            route(1, 2, 400) = true
            authorise(0, 1, 10000008, 100, false) = UNKNOWN
            card(10000008, 1000, 0) = 1
            available(10000008) = 1000
            """);
        script.finish();
    }
}
