public final class Promise11TickTest {
    public static void main(String[] args) {
        Script script = new Script();
        script.run("the range", """
            tick(1) = 1
            tick(100) = 101
            tick(0) = 101
            tick(101) = 101
            tick(-1) = 101
            tick(2147483647) = 101
            tick(-2147483648) = 101
            tick(3) = 104
            unwritten() = 0
            """);
        script.run("never lost", """
            reverse(0, 1, 0) = 0
            tick(20) = 20
            reverse(0, 2, 0) = 0
            tick(20) = 40
            unwritten() = 2
            crash(2) = true
            tick(0) = 40
            """);
        script.run("many ticks", Script.lines("tick(1) = #", 1, 400));
        script.finish();
    }
}
