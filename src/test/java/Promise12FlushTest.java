public final class Promise12FlushTest {
    public static void main(String[] args) {
        Script script = new Script();
        script.run("how many there were", """
            flush() = 0
            reverse(0, 1, 0) = 0
            flush() = 1
            flush() = 0
            reverse(0, 2, 0) = 0
            reverse(0, 3, 0) = 0
            flush() = 2
            unwritten() = 0
            """);
        script.run("what is written can't be lost", """
            reverse(0, 1, 0) = 0
            flush() = 1
            crash(1) = false
            reverse(0, 2, 0) = 0
            crash(2) = false
            crash(1) = true
            state(0, 1) = 5
            state(0, 2) = 0
            """);
        script.run("sixteen", Script.lines("reverse(0, #, 0) = 0", 1, 16), "flush() = 16", "unwritten() = 0");
        script.run("seventeen", Script.lines("reverse(0, #, 0) = 0", 1, 17), "flush() = 1", "flush() = 0");
        script.finish();
    }
}
